/-! ===== ONE ABSTRACT STEP OVER FLAGGED STATES ===== -/
def oPop (k : Nat) (C : Cx) (pc : Nat) (ls : List AL) (st : List AV) (ov : OV) : Option (List AS) := match st with
  | v :: st => bif Nat.beq (catA v) k then some [(C, pc + 1, ls, st, ov)] else none
  | _ => none
theorem oPop_ok {I : PH → Prop} {z : Int → Int} {Z : Option ZT} {σ : Nat → Int} {C : Cx} {pc : Nat} {ls : List AL} {st : List AV} {ov : OV} {l : PL} {s : List PV} {h : PH} {g : PG} {L : List AS} (H : tHy I z Z σ C ls st ov l s h g) (e : oPop 1 C pc ls st ov = some L) : tGO I z Z (nV C) σ L (pop1 pc l s h g) := by
  unfold oPop at e
  split at e
  · rename_i v st
    obtain ⟨w, s1, rfl, h1, h2⟩ := qSs_c H.2.1
    cases hk : Nat.beq (catA v) 1 with
    | false => rw [hk] at e; cases e
    | true =>
      rw [hk] at e
      cases e
      have hk := Nat.eq_of_beq_eq_true hk
      rw [qV_cat h1] at hk
      refine tgo1 (σ' := σ) (c' := (pc + 1, l, s1, h, g)) ⟨rfl, H.1, h2, H.2.2⟩ AG.rf (Nat.le_refl _) ?_
      unfold pop1
      simp only
      rw [if_pos hk]
      rfl
  · cases e
theorem oPop2_ok {I : PH → Prop} {z : Int → Int} {Z : Option ZT} {σ : Nat → Int} {C : Cx} {pc : Nat} {ls : List AL} {st : List AV} {ov : OV} {l : PL} {s : List PV} {h : PH} {g : PG} {L : List AS} (H : tHy I z Z σ C ls st ov l s h g) (e : oPop 2 C pc ls st ov = some L) : tGO I z Z (nV C) σ L (pop22 pc l s h g) := by
  unfold oPop at e
  split at e
  · rename_i v st
    obtain ⟨w, s1, rfl, h1, h2⟩ := qSs_c H.2.1
    cases hk : Nat.beq (catA v) 2 with
    | false => rw [hk] at e; cases e
    | true =>
      rw [hk] at e
      cases e
      have hk := Nat.eq_of_beq_eq_true hk
      rw [qV_cat h1] at hk
      refine tgo1 (σ' := σ) (c' := (pc + 1, l, s1, h, g)) ⟨rfl, H.1, h2, H.2.2⟩ AG.rf (Nat.le_refl _) ?_
      unfold pop22
      simp only
      rw [if_pos hk]
      rfl
  · cases e
def stT (P : RGt) (Z : Option ZT) (o : Nat) (i : Instr) (len x1 x2 x3 x4 : Nat) (C : Cx) (pc : Nat) (ls : List AL) (st : List AV) (ov : OV) : Option (List AS) := match i with
  | .iconst c => lenIf len 1 (oPush 1 (.inl (apC c)) C pc ls st ov)
  | .bipush c => lenIf len 2 (bif leZ (-128) c && leZ c 127 then oPush 2 (.inl (apC c)) C pc ls st ov else none)
  | .sipush c => lenIf len 3 (bif leZ (-32768) c && leZ c 32767 then oPush 3 (.inl (apC c)) C pc ls st ov else none)
  | .lconst c => lenIf len 1 (oPush 1 (.inr (.inl (apC ((c : Nat) : Int)))) C pc ls st ov)
  | .iload_n k => lenIf len 1 (oLd k 1 0 C pc ls st ov)
  | .iload k => lenIf len 2 (oLd k 2 0 C pc ls st ov)
  | .istore_n k => lenIf len 1 (oSt k 1 0 C pc ls st ov)
  | .istore k => lenIf len 2 (oSt k 2 0 C pc ls st ov)
  | .lload_n k => lenIf len 1 (oLd k 1 1 C pc ls st ov)
  | .lload k => lenIf len 2 (oLd k 2 1 C pc ls st ov)
  | .lstore_n k => lenIf len 1 (oSt k 1 1 C pc ls st ov)
  | .lstore k => lenIf len 2 (oSt k 2 1 C pc ls st ov)
  | .aload_n k => lenIf len 1 (oLd k 1 2 C pc ls st ov)
  | .aload k => lenIf len 2 (oLd k 2 2 C pc ls st ov)
  | .astore_n k => lenIf len 1 (oSt k 1 2 C pc ls st ov)
  | .astore k => lenIf len 2 (oSt k 2 2 C pc ls st ov)
  | .iinc k c => lenIf len 3 (oInc k c C pc ls st ov)
  | .iadd => lenIf len 1 (oBI aAdd C pc ls st ov)
  | .isub => lenIf len 1 (oBI aSub C pc ls st ov)
  | .imul => lenIf len 1 (oBI aMulT C pc ls st ov)
  | .iand => lenIf len 1 (oBI aAndT C pc ls st ov)
  | .ior => lenIf len 1 (oBI aOrT C pc ls st ov)
  | .ixor => lenIf len 1 (oBI (aGen xorI rng32) C pc ls st ov)
  | .ishl => lenIf len 1 (oBI aShlT C pc ls st ov)
  | .ishr => lenIf len 1 (oBI (aGen shrI rng32) C pc ls st ov)
  | .iushr => lenIf len 1 (oBI (aGen ushrI rng32) C pc ls st ov)
  | .idiv => lenIf len 1 (oDivT true C pc ls st ov)
  | .irem => lenIf len 1 (oDivT false C pc ls st ov)
  | .ineg => lenIf len 1 (oUI aNeg C pc ls st ov)
  | .i2b => lenIf len 1 (oUI (aGen (fun x _ => i2bI x) rng32) C pc ls st ov)
  | .i2c => lenIf len 1 (oUI (aGen (fun x _ => i2cI x) rng32) C pc ls st ov)
  | .i2l => lenIf len 1 (oI2l C pc ls st ov)
  | .l2i => lenIf len 1 (oL2i C pc ls st ov)
  | .ladd => lenIf len 1 (oBL aAdd C pc ls st ov)
  | .lsub => lenIf len 1 (oBL aSub C pc ls st ov)
  | .lmul => lenIf len 1 (oBL aMulT C pc ls st ov)
  | .ldiv => lenIf len 1 (oDivLT true C pc ls st ov)
  | .lrem => lenIf len 1 (oDivLT false C pc ls st ov)
  | .lneg => lenIf len 1 (oLneg C pc ls st ov)
  | .lcmp => lenIf len 1 (oLcmp C pc ls st ov)
  | .pop => lenIf len 1 (oPop 1 C pc ls st ov)
  | .pop2 => lenIf len 1 (oPop 2 C pc ls st ov)
  | .dup => lenIf len 1 (oDup C pc ls st ov)
  | .dup2 => lenIf len 1 (oDup2 C pc ls st ov)
  | .dup_x1 => lenIf len 1 (oDupx C pc ls st ov)
  | .goto off => lenIf len 3 (oGoto off C pc ls st ov)
  | .ifCond c off => lenIf len 3 (oIf c off C pc ls st ov)
  | .if_icmp c off => lenIf len 3 (oIfi c off C pc ls st ov)
  | .tableswitch d lo hi os => oTsw d lo hi os C pc ls st ov
  | .lookupswitch d ps => oLsw d ps C pc ls st ov
  | .iaload => lenIf len 1 (oAldT P Z 10 C pc ls st ov)
  | .caload => lenIf len 1 (oAldT P Z 12 C pc ls st ov)
  | .laload => lenIf len 1 (oAldLT P C pc ls st ov)
  | .aaload => lenIf len 1 (oAldRT C pc ls st ov)
  | .iastore => lenIf len 1 (oAstT P 10 C pc ls st ov)
  | .lastore => lenIf len 1 (oAstT P 11 C pc ls st ov)
  | .arraylength => lenIf len 1 (oAlenT Z C pc ls st ov)
  | .getfield k => lenIf len 3 (oGetFT P x1 x2 x3 C pc ls st ov)
  | .putfield k => lenIf len 3 (oPutFT P x1 x2 x3 x4 C pc ls st ov)
  | .getstatic k => lenIf len 3 (oGetS o k C pc ls st ov)
  | .ldc k => lenIf len 2 (bif Nat.beq x1 9 then (match cstT o k, strT o k with
    | none, some q => oPush 2 (.inr (.inr (apC (1010 + (q : Int))))) C pc ls st ov
    | _, _ => none) else oPush 2 (.inl (apC (sgn x2 x3))) C pc ls st ov)
  | .ldc_w k => lenIf len 3 (oPush 3 (.inl (apC (sgn x2 x3))) C pc ls st ov)
  | .ldc2_w k => lenIf len 3 (oPush 3 (.inr (.inl (apC (sgn x2 x3)))) C pc ls st ov)
  | .invokestatic k => lenIf len 3 (bif Nat.beq x1 2 then (match x2 with
    | 4 => oMax C pc ls st ov
    | 2 => oCopyT P C pc ls st ov
    | _ => none) else none)
  | _ => none
section STEPT
variable {P : RGt} {I : PH → Prop} {z : Int → Int} {Z : Option ZT} {σ : Nat → Int} {C : Cx} {pc : Nat} {ls : List AL} {st : List AV} {ov : OV} {l : PL} {s : List PV} {h : PH} {g : PG} {L : List AS}
set_option maxHeartbeats 4000000 in
theorem stT_ok (hP : tOK P I) {m o len x1 x2 x3 x4 : Nat} {i : Instr} (ho : o = mO m) (hH : okH m i x1 x2 x3 x4 = true) (H : tHy I z Z σ C ls st ov l s h g) (e : stT P Z o i len x1 x2 x3 x4 C pc ls st ov = some L) : tGO I z Z (nV C) σ L (xiD z m i len pc l s h g) := by
  subst ho
  unfold stT at e
  split at e
  · rename_i c
    obtain ⟨rfl, e⟩ := lenIf_ok e
    exact toPushI_ok H e
  · rename_i c
    obtain ⟨rfl, e⟩ := lenIf_ok e
    cases hk : leZ (-128) c && leZ c 127 with
    | false => rw [hk] at e; cases e
    | true =>
      rw [hk] at e
      have hk := Bool.and_eq_true_iff.mp hk
      have k1 := leZ_iff.mp hk.1
      have k2 := leZ_iff.mp hk.2
      have ex : xiD z m (.bipush c) 2 pc l s h g = nx (pc + 2) l (.inl c :: s) h g := if_pos ⟨rfl, k1, k2⟩
      rw [ex]
      exact toPushI_ok H e
  · rename_i c
    obtain ⟨rfl, e⟩ := lenIf_ok e
    cases hk : leZ (-32768) c && leZ c 32767 with
    | false => rw [hk] at e; cases e
    | true =>
      rw [hk] at e
      have hk := Bool.and_eq_true_iff.mp hk
      have k1 := leZ_iff.mp hk.1
      have k2 := leZ_iff.mp hk.2
      have ex : xiD z m (.sipush c) 3 pc l s h g = nx (pc + 3) l (.inl c :: s) h g := if_pos ⟨rfl, k1, k2⟩
      rw [ex]
      exact toPushI_ok H e
  · rename_i c
    obtain ⟨rfl, e⟩ := lenIf_ok e
    exact toPushL_ok H e
  · rename_i k
    obtain ⟨rfl, e⟩ := lenIf_ok e
    exact toLd_ok H e
  · rename_i k
    obtain ⟨rfl, e⟩ := lenIf_ok e
    exact toLd_ok H e
  · rename_i k
    obtain ⟨rfl, e⟩ := lenIf_ok e
    exact toSt_ok H e
  · rename_i k
    obtain ⟨rfl, e⟩ := lenIf_ok e
    exact toSt_ok H e
  · rename_i k
    obtain ⟨rfl, e⟩ := lenIf_ok e
    exact toLd_ok H e
  · rename_i k
    obtain ⟨rfl, e⟩ := lenIf_ok e
    exact toLd_ok H e
  · rename_i k
    obtain ⟨rfl, e⟩ := lenIf_ok e
    exact toSt_ok H e
  · rename_i k
    obtain ⟨rfl, e⟩ := lenIf_ok e
    exact toSt_ok H e
  · rename_i k
    obtain ⟨rfl, e⟩ := lenIf_ok e
    exact toLd_ok H e
  · rename_i k
    obtain ⟨rfl, e⟩ := lenIf_ok e
    exact toLd_ok H e
  · rename_i k
    obtain ⟨rfl, e⟩ := lenIf_ok e
    exact toSt_ok H e
  · rename_i k
    obtain ⟨rfl, e⟩ := lenIf_ok e
    exact toSt_ok H e
  · rename_i k c
    obtain ⟨rfl, e⟩ := lenIf_ok e
    exact toInc_ok H e
  · obtain ⟨rfl, e⟩ := lenIf_ok e
    exact tbI_ok aAdd_ok H e
  · obtain ⟨rfl, e⟩ := lenIf_ok e
    exact tbI_ok aSub_ok H e
  · obtain ⟨rfl, e⟩ := lenIf_ok e
    exact tbI_ok aMulT_ok H e
  · obtain ⟨rfl, e⟩ := lenIf_ok e
    exact tbI_ok aAndT_ok H e
  · obtain ⟨rfl, e⟩ := lenIf_ok e
    exact tbI_ok aOrT_ok H e
  · obtain ⟨rfl, e⟩ := lenIf_ok e
    exact tbI_ok aXor_ok H e
  · obtain ⟨rfl, e⟩ := lenIf_ok e
    exact tbI_ok aShlT_ok H e
  · obtain ⟨rfl, e⟩ := lenIf_ok e
    exact tbI_ok aShr_ok H e
  · obtain ⟨rfl, e⟩ := lenIf_ok e
    exact tbI_ok aUsh_ok H e
  · obtain ⟨rfl, e⟩ := lenIf_ok e
    exact toDivT_ok (f := true) H e
  · obtain ⟨rfl, e⟩ := lenIf_ok e
    exact toDivT_ok (f := false) H e
  · obtain ⟨rfl, e⟩ := lenIf_ok e
    exact tuI_ok (f := (- ·)) aNeg_ok H e
  · obtain ⟨rfl, e⟩ := lenIf_ok e
    exact tuI_ok (f := i2bI) aI2b_ok H e
  · obtain ⟨rfl, e⟩ := lenIf_ok e
    exact tuI_ok (f := i2cI) aI2c_ok H e
  · obtain ⟨rfl, e⟩ := lenIf_ok e
    exact toI2l_ok H e
  · obtain ⟨rfl, e⟩ := lenIf_ok e
    exact toL2i_ok H e
  · obtain ⟨rfl, e⟩ := lenIf_ok e
    exact tbL_ok aAdd_ok H e
  · obtain ⟨rfl, e⟩ := lenIf_ok e
    exact tbL_ok aSub_ok H e
  · obtain ⟨rfl, e⟩ := lenIf_ok e
    exact tbL_ok aMulT_ok H e
  · obtain ⟨rfl, e⟩ := lenIf_ok e
    exact toDivLT_ok (f := true) H e
  · obtain ⟨rfl, e⟩ := lenIf_ok e
    exact toDivLT_ok (f := false) H e
  · obtain ⟨rfl, e⟩ := lenIf_ok e
    exact toLneg_ok H e
  · obtain ⟨rfl, e⟩ := lenIf_ok e
    exact toLcmp_ok H e
  · obtain ⟨rfl, e⟩ := lenIf_ok e
    exact oPop_ok H e
  · obtain ⟨rfl, e⟩ := lenIf_ok e
    exact oPop2_ok H e
  · obtain ⟨rfl, e⟩ := lenIf_ok e
    exact toDup_ok H e
  · obtain ⟨rfl, e⟩ := lenIf_ok e
    exact toDup2_ok H e
  · obtain ⟨rfl, e⟩ := lenIf_ok e
    exact toDupx_ok H e
  · rename_i off
    obtain ⟨rfl, e⟩ := lenIf_ok e
    exact toGoto_ok H e
  · rename_i c off
    obtain ⟨rfl, e⟩ := lenIf_ok e
    obtain ⟨x, s1, rfl, k⟩ := toIf_ok H e
    exact k
  · rename_i c off
    obtain ⟨rfl, e⟩ := lenIf_ok e
    obtain ⟨x, y, s1, rfl, k⟩ := toIfi_ok H e
    exact k
  · rename_i d lo hi os
    exact toTsw_ok H e
  · rename_i d ps
    exact toLsw_ok H e
  · obtain ⟨rfl, e⟩ := lenIf_ok e
    obtain ⟨X, A, s2, rfl, hr, k⟩ := oAldT_ok hP H e
    have ex : xiD z m .iaload 1 pc l (.inl X :: .inr (.inr A) :: s2) h g = aldI z 10 pc l (.inl X :: .inr (.inr A) :: s2) h g := by
      unfold xiD
      simp only [hr, cond_true]
      rfl
    rw [ex]
    exact k
  · obtain ⟨rfl, e⟩ := lenIf_ok e
    obtain ⟨X, A, s2, rfl, hr, k⟩ := oAldT_ok hP H e
    have ex : xiD z m .caload 1 pc l (.inl X :: .inr (.inr A) :: s2) h g = aldI z 12 pc l (.inl X :: .inr (.inr A) :: s2) h g := by
      unfold xiD
      simp only [hr, cond_true]
      rfl
    rw [ex]
    exact k
  · obtain ⟨rfl, e⟩ := lenIf_ok e
    obtain ⟨X, A, s2, rfl, hr, k⟩ := oAldLT_ok hP H e
    have ex : xiD z m .laload 1 pc l (.inl X :: .inr (.inr A) :: s2) h g = aldL pc l (.inl X :: .inr (.inr A) :: s2) h g := by
      unfold xiD
      simp only [hr, cond_true]
      rfl
    rw [ex]
    exact k
  · obtain ⟨rfl, e⟩ := lenIf_ok e
    exact oAldRT_ok H e
  · obtain ⟨rfl, e⟩ := lenIf_ok e
    exact oAstT_ok hP H e
  · obtain ⟨rfl, e⟩ := lenIf_ok e
    exact oAstLT_ok hP H e
  · obtain ⟨rfl, e⟩ := lenIf_ok e
    exact oAlenT_ok H e
  · rename_i k
    obtain ⟨rfl, e⟩ := lenIf_ok e
    obtain ⟨w, a1, a2, a3⟩ := okF_ok hH
    exact oGetFT_ok hP a1 a2 a3 H e
  · rename_i k
    obtain ⟨rfl, e⟩ := lenIf_ok e
    have hH := Bool.and_eq_true_iff.mp hH
    obtain ⟨w, a1, a2, a3⟩ := okF_ok hH.1
    refine oPutFT_ok hP a1 a2 (fun q => ?_) H e
    rcases Bool.or_eq_true_iff.mp hH.2 with q2 | q2
    · have := Nat.eq_of_beq_eq_true q2; omega
    · exact of_decide_eq_true q2
  · rename_i k
    obtain ⟨rfl, e⟩ := lenIf_ok e
    exact oGetS_ok H e
  · rename_i k
    obtain ⟨rfl, e⟩ := lenIf_ok e
    cases hk : Nat.beq x1 9 with
    | true =>
      rw [hk] at e
      simp only [cond_true] at e
      cases hc : cstT (mO m) k with
      | some v =>
        rw [hc] at e
        cases hs : strT (mO m) k with
        | none => rw [hs] at e; cases e
        | some q => rw [hs] at e; cases e
      | none =>
        rw [hc] at e
        cases hs : strT (mO m) k with
        | none => rw [hs] at e; cases e
        | some q =>
          rw [hs] at e
          simp only at e
          have ex : xiD z m (.ldc k) 2 pc l s h g = nx (pc + 2) l (.inr (.inr (1010 + (q : Int))) :: s) h g := by
            show (match cstT (mO m) k with
              | some v => nx (pc + 2) l (.inl v :: s) h g
              | none => match strT (mO m) k with
                | some q => nx (pc + 2) l (.inr (.inr (1010 + (q : Int))) :: s) h g
                | none => none) = _
            rw [hc]
            simp only
            rw [hs]
          rw [ex]
          exact toPush_ok (a := .inr (.inr (apC (1010 + (q : Int))))) (v := .inr (.inr (1010 + (q : Int)))) H (okP_C _ _ _) e
    | false =>
      rw [hk] at e
      have hH : (decide (cstT (mO m) k = some (sgn x2 x3)) || Nat.beq x1 9) = true := hH
      rw [hk, Bool.or_false] at hH
      have hH := of_decide_eq_true hH
      show tGO I z Z (nV C) σ L (match cstT (mO m) k with
        | some v => nx (pc + 2) l (.inl v :: s) h g
        | none => match strT (mO m) k with
          | some q => nx (pc + 2) l (.inr (.inr (1010 + (q : Int))) :: s) h g
          | none => none)
      rw [hH]
      exact toPushI_ok H e
  · rename_i k
    obtain ⟨rfl, e⟩ := lenIf_ok e
    have hH := of_decide_eq_true hH
    show tGO I z Z (nV C) σ L (match cstT (mO m) k with
      | some v => nx (pc + 3) l (.inl v :: s) h g
      | none => none)
    rw [hH]
    exact toPushI_ok H e
  · rename_i k
    obtain ⟨rfl, e⟩ := lenIf_ok e
    have hH := of_decide_eq_true hH
    show tGO I z Z (nV C) σ L (match clgT (mO m) k with
      | some v => nx (pc + 3) l (.inr (.inl v) :: s) h g
      | none => none)
    rw [hH]
    exact toPushL_ok H e
  · rename_i k
    obtain ⟨rfl, e⟩ := lenIf_ok e
    cases hk : Nat.beq x1 2 with
    | false => rw [hk] at e; cases e
    | true =>
      rw [hk] at e
      simp only [cond_true] at e
      have hk := Nat.eq_of_beq_eq_true hk
      subst hk
      have hH : ((Nat.beq 2 1 && (decide (bltT (mO m) k = none) && okC m k 1 x2 x3 x4)) || (Nat.beq 2 2 && okB m k x2)) = true := hH
      have hH : okB m k x2 = true := by simpa using hH
      obtain ⟨a1, a2⟩ := okB_ok hH
      split at e
      · have exx : xiD z m (.invokestatic k) 3 pc l s h g = doBlt m (mO m) k pc l s h g := by
          unfold xiD
          simp only [a1]
          rw [show decide (some 4 = some 2) = false from by decide]
          simp only [cond_false]
          show (if bltT (mO m) k = none then doCall [1] m (mO m) k pc l s h g else if bltT (mO m) k = some 1 then none else doBlt m (mO m) k pc l s h g) = _
          rw [a1, if_neg (by intro q; cases q), if_neg (by intro q; cases q)]
        rw [exx]
        exact toMax_ok a1 a2 H e
      · exact oCopyT_ok hP a1 a2 H e
      · cases e
  · cases e
end STEPT
