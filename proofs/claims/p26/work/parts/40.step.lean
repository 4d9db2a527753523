/-! ===== every step of the plain machine is a step of the machine, 3: all together ===== -/
theorem r_nx {pc : Nat} {ls : PL} {st : List PV} {h : PH} {g : PG} {q} (hx : nx pc ls st h g = some (.inr q)) : False := by unfold nx at hx; cases hx
theorem if_len {n len : Nat} {x : Option SR} {r : SR} (h : (if len = n then x else none) = some r) : len = n ∧ x = some r := by
  by_cases q : len = n
  · rw [if_pos q] at h; exact ⟨q, h⟩
  · rw [if_neg q] at h; cases h
theorem r_bI {f : Int → Int → Int} {pc : Nat} {ls : PL} {st : List PV} {h : PH} {g : PG} {q} (hx : bI f pc ls st h g = some (.inr q)) : False := by
  unfold bI at hx
  repeat' (split at hx)
  all_goals (first | exact (r_nx hx).elim | cases hx)
theorem r_bL {f : Int → Int → Int} {pc : Nat} {ls : PL} {st : List PV} {h : PH} {g : PG} {q} (hx : bL f pc ls st h g = some (.inr q)) : False := by
  unfold bL at hx
  repeat' (split at hx)
  all_goals (first | exact (r_nx hx).elim | cases hx)
theorem r_qI {f : Int → Int → Int} {pc : Nat} {ls : PL} {st : List PV} {h : PH} {g : PG} {q} (hx : qI f pc ls st h g = some (.inr q)) : False := by
  unfold qI at hx
  repeat' (split at hx)
  all_goals (first | exact (r_nx hx).elim | cases hx)
theorem r_qL {f : Int → Int → Int} {pc : Nat} {ls : PL} {st : List PV} {h : PH} {g : PG} {q} (hx : qL f pc ls st h g = some (.inr q)) : False := by
  unfold qL at hx
  repeat' (split at hx)
  all_goals (first | exact (r_nx hx).elim | cases hx)
theorem r_uI {f : Int → Int} {pc : Nat} {ls : PL} {st : List PV} {h : PH} {g : PG} {q} (hx : uI f pc ls st h g = some (.inr q)) : False := by
  unfold uI at hx
  repeat' (split at hx)
  all_goals (first | exact (r_nx hx).elim | cases hx)
theorem r_jmp {pc : Nat} {off : Int} {ls : PL} {st : List PV} {h : PH} {g : PG} {q} (hx : jmp pc off ls st h g = some (.inr q)) : False := by
  unfold jmp at hx
  repeat' (split at hx)
  all_goals (first | exact (r_nx hx).elim | cases hx)
theorem r_jc {c : ClassFile.Cond} {x y : Int} {pc : Nat} {off : Int} {ls : PL} {st : List PV} {h : PH} {g : PG} {q} (hx : jc c x y pc off ls st h g = some (.inr q)) : False := by
  unfold jc at hx
  repeat' (split at hx)
  all_goals (first | exact (r_nx hx).elim | cases hx | exact (r_jmp hx).elim)
theorem r_ldv {i len pc : Nat} {k : Nat} {ls : PL} {st : List PV} {h : PH} {g : PG} {q} (hx : ldv i len pc k ls st h g = some (.inr q)) : False := by
  unfold ldv at hx
  repeat' (split at hx)
  all_goals (first | exact (r_nx hx).elim | cases hx)
theorem r_st1 {i len pc : Nat} {v : PV} {ls : PL} {st : List PV} {h : PH} {g : PG} {q} (hx : st1 i len pc v ls st h g = some (.inr q)) : False := by
  unfold st1 at hx
  repeat' (split at hx)
  all_goals (first | exact (r_nx hx).elim | cases hx)
theorem r_st2 {i len pc : Nat} {v : PV} {ls : PL} {st : List PV} {h : PH} {g : PG} {q} (hx : st2 i len pc v ls st h g = some (.inr q)) : False := by
  unfold st2 at hx
  repeat' (split at hx)
  all_goals (first | exact (r_nx hx).elim | cases hx)
theorem r_stv {i len pc : Nat} {k : Nat} {ls : PL} {st : List PV} {h : PH} {g : PG} {q} (hx : stv i len pc k ls st h g = some (.inr q)) : False := by
  unfold stv at hx
  repeat' (split at hx)
  all_goals (first | exact (r_nx hx).elim | cases hx | exact (r_st1 hx).elim | exact (r_st2 hx).elim)
theorem r_aldI {z : Int → Int} {k : Nat} {pc : Nat} {ls : PL} {st : List PV} {h : PH} {g : PG} {q} (hx : aldI z k pc ls st h g = some (.inr q)) : False := by
  unfold aldI at hx
  repeat' (split at hx)
  all_goals (first | exact (r_nx hx).elim | cases hx)
theorem r_aldL {pc : Nat} {ls : PL} {st : List PV} {h : PH} {g : PG} {q} (hx : aldL pc ls st h g = some (.inr q)) : False := by
  unfold aldL at hx
  repeat' (split at hx)
  all_goals (first | exact (r_nx hx).elim | cases hx)
theorem r_aldR {pc : Nat} {ls : PL} {st : List PV} {h : PH} {g : PG} {q} (hx : aldR pc ls st h g = some (.inr q)) : False := by
  unfold aldR at hx
  repeat' (split at hx)
  all_goals (first | exact (r_nx hx).elim | cases hx)
theorem r_astI {k : Nat} {ok : Int → Bool} {pc : Nat} {ls : PL} {st : List PV} {h : PH} {g : PG} {q} (hx : astI k ok pc ls st h g = some (.inr q)) : False := by
  unfold astI at hx
  repeat' (split at hx)
  all_goals (first | exact (r_nx hx).elim | cases hx)
theorem r_astL {pc : Nat} {ls : PL} {st : List PV} {h : PH} {g : PG} {q} (hx : astL pc ls st h g = some (.inr q)) : False := by
  unfold astL at hx
  repeat' (split at hx)
  all_goals (first | exact (r_nx hx).elim | cases hx)
theorem r_astR {pc : Nat} {ls : PL} {st : List PV} {h : PH} {g : PG} {q} (hx : astR pc ls st h g = some (.inr q)) : False := by
  unfold astR at hx
  repeat' (split at hx)
  all_goals (first | exact (r_nx hx).elim | cases hx)
theorem r_alenI {z : Int → Int} {pc : Nat} {ls : PL} {st : List PV} {h : PH} {g : PG} {q} (hx : alenI z pc ls st h g = some (.inr q)) : False := by
  unfold alenI at hx
  repeat' (split at hx)
  all_goals (first | exact (r_nx hx).elim | cases hx)
theorem r_getF {o i pc : Nat} {ls : PL} {st : List PV} {h : PH} {g : PG} {q} (hx : getF o i pc ls st h g = some (.inr q)) : False := by
  unfold getF at hx
  repeat' (split at hx)
  all_goals (first | exact (r_nx hx).elim | cases hx)
theorem r_putF {ini : Bool} {o i pc : Nat} {ls : PL} {st : List PV} {h : PH} {g : PG} {q} (hx : putF ini o i pc ls st h g = some (.inr q)) : False := by
  unfold putF at hx
  repeat' (split at hx)
  all_goals (first | exact (r_nx hx).elim | cases hx)
theorem r_getS {o i pc : Nat} {ls : PL} {st : List PV} {h : PH} {g : PG} {q} (hx : getS o i pc ls st h g = some (.inr q)) : False := by
  unfold getS at hx
  repeat' (split at hx)
  all_goals (first | exact (r_nx hx).elim | cases hx)
theorem r_newO {o i pc : Nat} {ls : PL} {st : List PV} {h : PH} {g : PG} {q} (hx : newO o i pc ls st h g = some (.inr q)) : False := by
  unfold newO at hx
  repeat' (split at hx)
  all_goals (first | exact (r_nx hx).elim | cases hx)
theorem r_newA {k len pc : Nat} {ls : PL} {st : List PV} {h : PH} {g : PG} {q} (hx : newA k len pc ls st h g = some (.inr q)) : False := by
  unfold newA at hx
  repeat' (split at hx)
  all_goals (first | exact (r_nx hx).elim | cases hx)
theorem r_newM {pc : Nat} {ls : PL} {st : List PV} {h : PH} {g : PG} {q} (hx : newM pc ls st h g = some (.inr q)) : False := by
  unfold newM at hx
  repeat' (split at hx)
  all_goals (first | exact (r_nx hx).elim | cases hx)
theorem r_doBlt {mm o i pc : Nat} {ls : PL} {st : List PV} {h : PH} {g : PG} {q} (hx : doBlt mm o i pc ls st h g = some (.inr q)) : False := by
  unfold doBlt at hx
  repeat' (split at hx)
  all_goals (first | exact (r_nx hx).elim | cases hx)
theorem r_tsw {d lo hi : Int} {os : Array Int} {pc : Nat} {ls : PL} {st : List PV} {h : PH} {g : PG} {q} (hx : tsw d lo hi os pc ls st h g = some (.inr q)) : False := by
  unfold tsw at hx
  repeat' (split at hx)
  all_goals (first | exact (r_nx hx).elim | cases hx | exact (r_jmp hx).elim)
theorem r_lsw {d : Int} {ps : Array (Int × Int)} {pc : Nat} {ls : PL} {st : List PV} {h : PH} {g : PG} {q} (hx : lsw d ps pc ls st h g = some (.inr q)) : False := by
  unfold lsw at hx
  repeat' (split at hx)
  all_goals (first | exact (r_nx hx).elim | cases hx | exact (r_jmp hx).elim)
theorem r_iinc {i : Nat} {c : Int} {pc : Nat} {ls : PL} {st : List PV} {h : PH} {g : PG} {q} (hx : iinc i c pc ls st h g = some (.inr q)) : False := by
  unfold iinc at hx
  repeat' (split at hx)
  all_goals (first | exact (r_nx hx).elim | cases hx | exact (r_st1 hx).elim)
theorem r_dup2 {pc : Nat} {ls : PL} {st : List PV} {h : PH} {g : PG} {q} (hx : dup2 pc ls st h g = some (.inr q)) : False := by
  unfold dup2 at hx
  repeat' (split at hx)
  all_goals (first | exact (r_nx hx).elim | cases hx)
theorem r_pop1 {pc : Nat} {ls : PL} {st : List PV} {h : PH} {g : PG} {q} (hx : pop1 pc ls st h g = some (.inr q)) : False := by
  unfold pop1 at hx
  repeat' (split at hx)
  all_goals (first | exact (r_nx hx).elim | cases hx)
theorem r_pop22 {pc : Nat} {ls : PL} {st : List PV} {h : PH} {g : PG} {q} (hx : pop22 pc ls st h g = some (.inr q)) : False := by
  unfold pop22 at hx
  repeat' (split at hx)
  all_goals (first | exact (r_nx hx).elim | cases hx)
theorem r_dup1 {pc : Nat} {ls : PL} {st : List PV} {h : PH} {g : PG} {q} (hx : dup1 pc ls st h g = some (.inr q)) : False := by
  unfold dup1 at hx
  repeat' (split at hx)
  all_goals (first | exact (r_nx hx).elim | cases hx)
theorem r_dupx {pc : Nat} {ls : PL} {st : List PV} {h : PH} {g : PG} {q} (hx : dupx pc ls st h g = some (.inr q)) : False := by
  unfold dupx at hx
  repeat' (split at hx)
  all_goals (first | exact (r_nx hx).elim | cases hx)
theorem r_i2lI {pc : Nat} {ls : PL} {st : List PV} {h : PH} {g : PG} {q} (hx : i2lI pc ls st h g = some (.inr q)) : False := by
  unfold i2lI at hx
  repeat' (split at hx)
  all_goals (first | exact (r_nx hx).elim | cases hx)
theorem r_l2iI {pc : Nat} {ls : PL} {st : List PV} {h : PH} {g : PG} {q} (hx : l2iI pc ls st h g = some (.inr q)) : False := by
  unfold l2iI at hx
  repeat' (split at hx)
  all_goals (first | exact (r_nx hx).elim | cases hx)
theorem r_negL {pc : Nat} {ls : PL} {st : List PV} {h : PH} {g : PG} {q} (hx : negL pc ls st h g = some (.inr q)) : False := by
  unfold negL at hx
  repeat' (split at hx)
  all_goals (first | exact (r_nx hx).elim | cases hx)
theorem r_lcmpI {pc : Nat} {ls : PL} {st : List PV} {h : PH} {g : PG} {q} (hx : lcmpI pc ls st h g = some (.inr q)) : False := by
  unfold lcmpI at hx
  repeat' (split at hx)
  all_goals (first | exact (r_nx hx).elim | cases hx)
section FRI
variable {base : Nat} {ad : Int → Nat} {z : Int → Int} {cA : Nat → ClassId} {D : va_G} {n0 mi : Nat} {p : Program} {l : Launch} {e : Env} {R : Room} {s : State} {m : MethodId} {args : Array Value} {below : List Frame} {meth : Method} {c : Code} {Q : State → Prop}
variable {pc : Nat} {ls : PL} {st : List PV} {h : PH} {g : PG} {k : Cfg}
theorem q_doCall {ks : List Nat} {mm o i pc : Nat} {ls : PL} {st : List PV} {h : PH} {g : PG} {k : Cfg} (hx : doCall ks mm o i pc ls st h g = some (.inl k)) : False := by
  unfold doCall at hx
  repeat' (split at hx)
  all_goals (cases hx)
theorem q_retI {m : Nat} {st : List PV} {h : PH} {g : PG} {k : Cfg} (hx : retI m st h g = some (.inl k)) : False := by
  unfold retI at hx
  repeat' (split at hx)
  all_goals (cases hx)
theorem q_retL {m : Nat} {st : List PV} {h : PH} {g : PG} {k : Cfg} (hx : retL m st h g = some (.inl k)) : False := by
  unfold retL at hx
  repeat' (split at hx)
  all_goals (cases hx)
theorem q_retV {m : Nat} {st : List PV} {h : PH} {g : PG} {k : Cfg} (hx : retV m st h g = some (.inl k)) : False := by
  unfold retV at hx
  repeat' (split at hx)
  all_goals (cases hx)

set_option maxHeartbeats 4000000 in
theorem xi_next (hz : 0 ≤ z (-1)) {i : Instr} {len : Nat} (hd : decode (mC mi) pc = .ok (i, len)) (hx : xi z mi i len pc ls st h g = some (.inl k)) : g.1 ≤ k.2.2.2.2.1 ∧ (g.1 ≤ nCell → k.2.2.2.2.1 ≤ nCell) ∧ ∀ (_ : FO base ad z cA D p s m args meth c mi) (_ : RoomOK R mi n0 k.2.2.2.2.1) (_ : n0 ≤ g.1) (_ : WG base ad cA D n0 mi p l e R s m args below meth c Q k), WG base ad cA D n0 mi p l e R s m args below meth c Q (pc, ls, st, h, g) := by
  cases i
  case iadd => obtain ⟨rfl, h9⟩ := if_len hx; exact n_iadd hd h9
  case isub => obtain ⟨rfl, h9⟩ := if_len hx; exact n_isub hd h9
  case imul => obtain ⟨rfl, h9⟩ := if_len hx; exact n_imul hd h9
  case iand => obtain ⟨rfl, h9⟩ := if_len hx; exact n_iand hd h9
  case ior => obtain ⟨rfl, h9⟩ := if_len hx; exact n_ior hd h9
  case ixor => obtain ⟨rfl, h9⟩ := if_len hx; exact n_ixor hd h9
  case ishl => obtain ⟨rfl, h9⟩ := if_len hx; exact n_ishl hd h9
  case ishr => obtain ⟨rfl, h9⟩ := if_len hx; exact n_ishr hd h9
  case iushr => obtain ⟨rfl, h9⟩ := if_len hx; exact n_iushr hd h9
  case idiv => obtain ⟨rfl, h9⟩ := if_len hx; exact n_idiv hd h9
  case irem => obtain ⟨rfl, h9⟩ := if_len hx; exact n_irem hd h9
  case ineg => obtain ⟨rfl, h9⟩ := if_len hx; exact n_ineg hd h9
  case i2b => obtain ⟨rfl, h9⟩ := if_len hx; exact n_i2b hd h9
  case i2c => obtain ⟨rfl, h9⟩ := if_len hx; exact n_i2c hd h9
  case i2l => obtain ⟨rfl, h9⟩ := if_len hx; exact n_i2l hd h9
  case l2i => obtain ⟨rfl, h9⟩ := if_len hx; exact n_l2i hd h9
  case ladd => obtain ⟨rfl, h9⟩ := if_len hx; exact n_ladd hd h9
  case lsub => obtain ⟨rfl, h9⟩ := if_len hx; exact n_lsub hd h9
  case lmul => obtain ⟨rfl, h9⟩ := if_len hx; exact n_lmul hd h9
  case ldiv => obtain ⟨rfl, h9⟩ := if_len hx; exact n_ldiv hd h9
  case lrem => obtain ⟨rfl, h9⟩ := if_len hx; exact n_lrem hd h9
  case lneg => obtain ⟨rfl, h9⟩ := if_len hx; exact n_lneg hd h9
  case lcmp => obtain ⟨rfl, h9⟩ := if_len hx; exact n_lcmp hd h9
  case pop => obtain ⟨rfl, h9⟩ := if_len hx; exact n_pop hd h9
  case pop2 => obtain ⟨rfl, h9⟩ := if_len hx; exact n_pop2 hd h9
  case dup => obtain ⟨rfl, h9⟩ := if_len hx; exact n_dup hd h9
  case dup2 => obtain ⟨rfl, h9⟩ := if_len hx; exact n_dup2 hd h9
  case dup_x1 => obtain ⟨rfl, h9⟩ := if_len hx; exact n_dup_x1 hd h9
  case iaload => obtain ⟨rfl, h9⟩ := if_len hx; exact n_iaload hd h9
  case baload => obtain ⟨rfl, h9⟩ := if_len hx; exact n_baload hd h9
  case caload => obtain ⟨rfl, h9⟩ := if_len hx; exact n_caload hd h9
  case laload => obtain ⟨rfl, h9⟩ := if_len hx; exact n_laload hd h9
  case aaload => obtain ⟨rfl, h9⟩ := if_len hx; exact n_aaload hd h9
  case iastore => obtain ⟨rfl, h9⟩ := if_len hx; exact n_iastore hd h9
  case castore => obtain ⟨rfl, h9⟩ := if_len hx; exact n_castore hd h9
  case lastore => obtain ⟨rfl, h9⟩ := if_len hx; exact n_lastore hd h9
  case aastore => obtain ⟨rfl, h9⟩ := if_len hx; exact n_aastore hd h9
  case iload_n j => obtain ⟨rfl, h9⟩ := if_len hx; exact n_iload_n hd h9
  case iload j => obtain ⟨rfl, h9⟩ := if_len hx; exact n_iload hd h9
  case lload_n j => obtain ⟨rfl, h9⟩ := if_len hx; exact n_lload_n hd h9
  case lload j => obtain ⟨rfl, h9⟩ := if_len hx; exact n_lload hd h9
  case aload_n j => obtain ⟨rfl, h9⟩ := if_len hx; exact n_aload_n hd h9
  case aload j => obtain ⟨rfl, h9⟩ := if_len hx; exact n_aload hd h9
  case istore_n j => obtain ⟨rfl, h9⟩ := if_len hx; exact n_istore_n hd h9
  case istore j => obtain ⟨rfl, h9⟩ := if_len hx; exact n_istore hd h9
  case lstore_n j => obtain ⟨rfl, h9⟩ := if_len hx; exact n_lstore_n hd h9
  case lstore j => obtain ⟨rfl, h9⟩ := if_len hx; exact n_lstore hd h9
  case astore_n j => obtain ⟨rfl, h9⟩ := if_len hx; exact n_astore_n hd h9
  case astore j => obtain ⟨rfl, h9⟩ := if_len hx; exact n_astore hd h9
  case goto off => obtain ⟨rfl, h9⟩ := if_len hx; exact n_goto hd h9
  case getfield j => obtain ⟨rfl, h9⟩ := if_len hx; exact n_getfield hd h9
  case putfield j => obtain ⟨rfl, h9⟩ := if_len hx; exact n_putfield hd h9
  case getstatic j => obtain ⟨rfl, h9⟩ := if_len hx; exact n_getstatic hd h9
  case ldc j => obtain ⟨rfl, h9⟩ := if_len hx; exact n_ldc hd h9
  case new j => obtain ⟨rfl, h9⟩ := if_len hx; exact n_new hd h9
  case iconst j => obtain ⟨rfl, h9⟩ := if_len hx; exact n_iconst hd h9
  case lconst j => obtain ⟨rfl, h9⟩ := if_len hx; exact n_lconst hd h9
  case ldc_w j => obtain ⟨rfl, h9⟩ := if_len hx; exact n_ldcw hd h9
  case ldc2_w j => obtain ⟨rfl, h9⟩ := if_len hx; exact n_ldc2 hd h9
  case arraylength => obtain ⟨rfl, h9⟩ := if_len hx; exact n_alen hz hd h9
  case iinc j q => obtain ⟨rfl, h9⟩ := if_len hx; exact n_iinc hd h9
  case if_icmp q off => obtain ⟨rfl, h9⟩ := if_len hx; exact n_icmp hd h9
  case ifCond q off => obtain ⟨rfl, h9⟩ := if_len hx; exact n_ifc hd h9
  case tableswitch d lo hi os => exact n_tsw hd hx
  case lookupswitch d ps => exact n_lsw hd hx
  case bipush j =>
    simp only [xi] at hx
    split at hx
    · rename_i h1
      obtain ⟨rfl, h2, h3⟩ := h1
      exact n_bipush ⟨h2, h3⟩ hd hx
    · cases hx
  case sipush j =>
    simp only [xi] at hx
    split at hx
    · rename_i h1
      obtain ⟨rfl, h2, h3⟩ := h1
      exact n_sipush ⟨h2, h3⟩ hd hx
    · cases hx
  case newarray t =>
    obtain ⟨rfl, h9⟩ := if_len hx
    cases t
    case int => exact n_newarrI hd h9
    case long => exact n_newarrJ hd h9
    case char => exact n_newarrC hd h9
    all_goals cases h9
  case anewarray j => obtain ⟨rfl, h9⟩ := if_len hx; exact n_anew hd h9
  case multianewarray j d =>
    simp only [xi] at hx
    split at hx
    · rename_i h1
      obtain ⟨rfl, rfl, h3⟩ := h1
      exact n_multi h3 hd hx
    · cases hx
  case invokevirtual j => obtain ⟨rfl, h9⟩ := if_len hx; exact (q_doCall h9).elim
  case invokestatic j =>
    obtain ⟨rfl, h9⟩ := if_len hx
    split at h9
    · exact (q_doCall h9).elim
    · rename_i h1
      split at h9
      · cases h9
      · rename_i h2
        exact n_bltS h1 h2 hd h9
  case invokespecial j =>
    obtain ⟨rfl, h9⟩ := if_len hx
    split at h9
    · exact (q_doCall h9).elim
    · split at h9
      · rename_i h2
        exact n_bltI h2 hd h9
      · cases h9
  case ireturn => obtain ⟨rfl, h9⟩ := if_len hx; exact (q_retI h9).elim
  case lreturn => obtain ⟨rfl, h9⟩ := if_len hx; exact (q_retL h9).elim
  case return_ => obtain ⟨rfl, h9⟩ := if_len hx; exact (q_retV h9).elim
  all_goals cases hx

set_option maxHeartbeats 4000000 in
theorem xi_inr {i : Instr} {len : Nat} {q : (Nat × List PV × Cfg) ⊕ Out} (hx : xi z mi i len pc ls st h g = some (.inr q)) :
    (∃ j, i = .invokevirtual j ∧ len = 3 ∧ doCall [0] mi (mO mi) j pc ls st h g = some (.inr q)) ∨ (∃ j, i = .invokestatic j ∧ len = 3 ∧ doCall [1] mi (mO mi) j pc ls st h g = some (.inr q)) ∨ (∃ j, i = .invokespecial j ∧ len = 3 ∧ doCall [2] mi (mO mi) j pc ls st h g = some (.inr q)) ∨
    (i = .ireturn ∧ len = 1 ∧ retI mi st h g = some (.inr q)) ∨ (i = .lreturn ∧ len = 1 ∧ retL mi st h g = some (.inr q)) ∨ (i = .return_ ∧ len = 1 ∧ retV mi st h g = some (.inr q)) := by
  cases i
  case iadd => exact (r_bI (if_len hx).2).elim
  case isub => exact (r_bI (if_len hx).2).elim
  case imul => exact (r_bI (if_len hx).2).elim
  case iand => exact (r_bI (if_len hx).2).elim
  case ior => exact (r_bI (if_len hx).2).elim
  case ixor => exact (r_bI (if_len hx).2).elim
  case ishl => exact (r_bI (if_len hx).2).elim
  case ishr => exact (r_bI (if_len hx).2).elim
  case iushr => exact (r_bI (if_len hx).2).elim
  case idiv => exact (r_qI (if_len hx).2).elim
  case irem => exact (r_qI (if_len hx).2).elim
  case ineg => exact (r_uI (if_len hx).2).elim
  case i2b => exact (r_uI (if_len hx).2).elim
  case i2c => exact (r_uI (if_len hx).2).elim
  case i2l => exact (r_i2lI (if_len hx).2).elim
  case l2i => exact (r_l2iI (if_len hx).2).elim
  case ladd => exact (r_bL (if_len hx).2).elim
  case lsub => exact (r_bL (if_len hx).2).elim
  case lmul => exact (r_bL (if_len hx).2).elim
  case ldiv => exact (r_qL (if_len hx).2).elim
  case lrem => exact (r_qL (if_len hx).2).elim
  case lneg => exact (r_negL (if_len hx).2).elim
  case lcmp => exact (r_lcmpI (if_len hx).2).elim
  case pop => exact (r_pop1 (if_len hx).2).elim
  case pop2 => exact (r_pop22 (if_len hx).2).elim
  case dup => exact (r_dup1 (if_len hx).2).elim
  case dup2 => exact (r_dup2 (if_len hx).2).elim
  case dup_x1 => exact (r_dupx (if_len hx).2).elim
  case iaload => exact (r_aldI (if_len hx).2).elim
  case baload => exact (r_aldI (if_len hx).2).elim
  case caload => exact (r_aldI (if_len hx).2).elim
  case laload => exact (r_aldL (if_len hx).2).elim
  case aaload => exact (r_aldR (if_len hx).2).elim
  case iastore => exact (r_astI (if_len hx).2).elim
  case castore => exact (r_astI (if_len hx).2).elim
  case lastore => exact (r_astL (if_len hx).2).elim
  case aastore => exact (r_astR (if_len hx).2).elim
  case arraylength => exact (r_alenI (if_len hx).2).elim
  case iload_n j => exact (r_ldv (if_len hx).2).elim
  case iload j => exact (r_ldv (if_len hx).2).elim
  case lload_n j => exact (r_ldv (if_len hx).2).elim
  case lload j => exact (r_ldv (if_len hx).2).elim
  case aload_n j => exact (r_ldv (if_len hx).2).elim
  case aload j => exact (r_ldv (if_len hx).2).elim
  case istore_n j => exact (r_stv (if_len hx).2).elim
  case istore j => exact (r_stv (if_len hx).2).elim
  case lstore_n j => exact (r_stv (if_len hx).2).elim
  case lstore j => exact (r_stv (if_len hx).2).elim
  case astore_n j => exact (r_stv (if_len hx).2).elim
  case astore j => exact (r_stv (if_len hx).2).elim
  case goto off => exact (r_jmp (if_len hx).2).elim
  case getfield j => exact (r_getF (if_len hx).2).elim
  case putfield j => exact (r_putF (if_len hx).2).elim
  case getstatic j => exact (r_getS (if_len hx).2).elim
  case new j => exact (r_newO (if_len hx).2).elim
  case iconst j => exact (r_nx (if_len hx).2).elim
  case lconst j => exact (r_nx (if_len hx).2).elim
  case iinc j q => exact (r_iinc (if_len hx).2).elim
  case if_icmp q off =>
    have h9 := (if_len hx).2
    split at h9
    · exact (r_jc h9).elim
    · cases h9
  case ifCond q off =>
    have h9 := (if_len hx).2
    split at h9
    · exact (r_jc h9).elim
    · cases h9
  case tableswitch d lo hi os => exact (r_tsw hx).elim
  case lookupswitch d ps => exact (r_lsw hx).elim
  case ldc j =>
    have h9 := (if_len hx).2
    split at h9
    · exact (r_nx h9).elim
    · split at h9
      · exact (r_nx h9).elim
      · cases h9
  case ldc_w j =>
    have h9 := (if_len hx).2
    split at h9
    · exact (r_nx h9).elim
    · cases h9
  case ldc2_w j =>
    have h9 := (if_len hx).2
    split at h9
    · exact (r_nx h9).elim
    · cases h9
  case bipush j =>
    simp only [xi] at hx
    split at hx
    · exact (r_nx hx).elim
    · cases hx
  case sipush j =>
    simp only [xi] at hx
    split at hx
    · exact (r_nx hx).elim
    · cases hx
  case newarray t =>
    have h9 := (if_len hx).2
    cases t
    case int => exact (r_newA h9).elim
    case long => exact (r_newA h9).elim
    case char => exact (r_newA h9).elim
    all_goals cases h9
  case anewarray j =>
    have h9 := (if_len hx).2
    split at h9
    · exact (r_newA h9).elim
    · cases h9
  case multianewarray j d =>
    simp only [xi] at hx
    split at hx
    · exact (r_newM hx).elim
    · cases hx
  case invokevirtual j => obtain ⟨rfl, h9⟩ := if_len hx; exact Or.inl ⟨j, rfl, rfl, h9⟩
  case invokestatic j =>
    obtain ⟨rfl, h9⟩ := if_len hx
    split at h9
    · exact Or.inr (Or.inl ⟨j, rfl, rfl, h9⟩)
    · split at h9
      · cases h9
      · exact (r_doBlt h9).elim
  case invokespecial j =>
    obtain ⟨rfl, h9⟩ := if_len hx
    split at h9
    · exact Or.inr (Or.inr (Or.inl ⟨j, rfl, rfl, h9⟩))
    · split at h9
      · exact (r_doBlt h9).elim
      · cases h9
  case ireturn => obtain ⟨rfl, h9⟩ := if_len hx; exact Or.inr (Or.inr (Or.inr (Or.inl ⟨rfl, rfl, h9⟩)))
  case lreturn => obtain ⟨rfl, h9⟩ := if_len hx; exact Or.inr (Or.inr (Or.inr (Or.inr (Or.inl ⟨rfl, rfl, h9⟩))))
  case return_ => obtain ⟨rfl, h9⟩ := if_len hx; exact Or.inr (Or.inr (Or.inr (Or.inr (Or.inr ⟨rfl, rfl, h9⟩))))
  all_goals cases hx

end FRI
