/-! ===== what is known of the tables and of the cells that nobody writes, at a state ===== -/
def va_AOt (ty : FieldType) (U : State) : Prop := (Cond.arrayOver ty).before #[] U = true
theorem va_AOt_spec {U : State} (h : va_AOt (.array .int) U) : ∃ comp c k, U.vm.findClass (FieldType.array .int).toString = some comp ∧ (U.vm.classes.findIdx? fun x => match x.kind with | .array component _ => component == comp | _ => false) = some c ∧ U.vm.classes[c]? = some k ∧ k.kind = .array comp (.array .int) ∧ U.vm.findClass ("[" ++ (FieldType.array .int).toString) = some c := by
  unfold va_AOt Cond.before at h
  simp only [Cond.holds, Cond.value, beq_iff_eq] at h
  cases hc : U.vm.findClass (FieldType.array .int).toString with
  | none => simp [hc] at h
  | some comp =>
    simp only [hc, Option.bind_some, Option.bind_eq_some_iff, Option.map_eq_some_iff] at h
    obtain ⟨c, hi, k, hk, hb⟩ := h
    obtain ⟨hlt, hp, -⟩ := Array.findIdx?_eq_some_iff_getElem.mp hi
    have hkk : U.vm.classes[c] = k := (Array.getElem?_eq_some_iff.mp hk).2
    rw [hkk] at hp
    cases hkind : k.kind with
    | array component ty =>
      rw [hkind] at hb hp
      simp at hb hp
      exact ⟨comp, c, k, rfl, hi, hk, by rw [hkind, hp, hb.1], hb.2⟩
    | _ => rw [hkind] at hb; simp at hb
theorem va_AOt.moved {u U : State} (hvm : u.vm.Alike U.vm) (h : va_AOt (.array .int) u) : va_AOt (.array .int) U := by
  obtain ⟨comp, c, k, h1, h2, h3, h4, h5⟩ := va_AOt_spec h
  obtain ⟨k', hk', he⟩ := hvm.2.2 _ _ h3
  have hi : (U.vm.classes.findIdx? fun (x : Class) => match x.kind with | .array component _ => component == comp | _ => false) = some c := by
    have e1 := va_idx_bare U.vm comp
    have e2 := va_idx_bare u.vm comp
    have e3 : u.vm.bare = U.vm.bare := by first | exact hvm.bare_eq | exact hvm.bare_eq.symm
    rw [← e3] at e1
    exact e1.symm.trans (e2.trans h2)
  have hkind : k'.kind = .array comp (.array .int) := by rw [he]; exact h4
  have f1 : U.vm.findClass (FieldType.array .int).toString = some comp := by rw [hvm.findClass]; exact h1
  have f2 : U.vm.findClass ("[" ++ (FieldType.array .int).toString) = some c := by rw [hvm.findClass]; exact h5
  unfold va_AOt Cond.before Cond.holds
  simp only [Cond.value]
  rw [f1, Option.bind_some]
  refine (congrArg (fun o : Option Nat => (o.bind (fun c => (U.vm.classes[c]?).map fun (k : Class) => match k.kind with | .array _ ty => decide (ty = FieldType.array .int) && decide (U.vm.findClass ("[" ++ (FieldType.array .int).toString) = some c) | _ => false) == some true)) hi).trans ?_
  simp [hk', hkind, f2]
/-- of the tables: classes, links between nest mates, rows of objects -/
def NFa (cA : Nat → ClassId) (D : va_G) (U : State) : Prop :=
  va_K D vwCl (tysOf cA) U ∧ (∀ e ∈ fldL, e.2.2.2.2.1 = 1 → va_Nw (isNestF e) U) ∧ (∀ e ∈ mthL, e.2.2.2.1 = 1 → va_Nw (isNestM e) U) ∧
  va_Nw (.fieldLinkNest RX1 60 RX7 "KIND_ABOVE" "[I" RX7) U ∧ va_Nw (.fieldLinkNest RX6 49 RX7 "NUMBERS_BEHIND" "[I" RX7) U ∧
  va_AO RX1 U ∧ va_AO RX4 U ∧ va_AO RX5 U ∧ va_AOt (.array .int) U
/-- of the heap: what nobody writes -/
def ROF (ad : Int → Nat) (z : Int → Int) (A : Nat → Prop) (U : State) (H : Heap) : Prop :=
  va_Z RX7 "KIND_ABOVE" "[I" (.ref (ad 1000)) A U H ∧ va_Z RX7 "NUMBERS_BEHIND" "[I" (.ref (ad 1001)) A U H ∧ va_Z "java/lang/String" "COMPACT_STRINGS" "Z" (.int 1) A U H ∧
  va_Zq "jdk/internal/util/Preconditions" "SIOOBE_FORMATTER" "Ljava/util/function/BiFunction;" A U H ∧
  (∀ a : Int, roK a = 10 → va_T .int (ad a) (roN z a).toNat (fun j => .int (Int32.ofInt (roV z a j))) A U H) ∧
  (∀ a : Int, roK a = 17 → va_T .byte (ad a) (roN z a).toNat (fun j => .int (Int32.ofInt (roV z a j))) A U H) ∧
  (∀ i : Nat, i < 4 → va_O RJ0 (ad (1010 + (i : Int))) A U H ∧ va_OF RJ0 "coder" "B" (.int 0) (ad (1010 + (i : Int))) A U H ∧ va_OF RJ0 "value" "[B" (.ref (ad (1020 + (i : Int)))) (ad (1010 + (i : Int))) A U H)
/-- of the text constants -/
def STF (ad : Int → Nat) (U : State) : Prop := ∀ (i : Nat) (e : Nat × Nat × String × Nat), strL[i]? = some e → vk_R (oN e.1) e.2.1 e.2.2.1 (ad (1010 + (i : Int))) U
def KB (base : Nat) (ad : Int → Nat) (z : Int → Int) (cA : Nat → ClassId) (D : va_G) (U : State) (H : Heap) : Prop := NFa cA D U ∧ ROF ad z (ZA base) U H ∧ STF ad U
theorem NFa.warm {cA : Nat → ClassId} {D : va_G} {s U : State} (hW : s.WarmedH U.vm) (h : NFa cA D s) : NFa cA D U := by
  obtain ⟨h1, h2, h3, h4, h5, h6, h7, h8, h9⟩ := h
  exact ⟨h1.moved hW.alike, fun e he hn => va_Nw.warmF hW (h2 e he hn), fun e he hn => va_Nw.warmM hW (h3 e he hn), va_Nw.warmF hW h4, va_Nw.warmF hW h5, h6.moved hW.alike, h7.moved hW.alike, h8.moved hW.alike, h9.moved hW.alike⟩
theorem NFa.same {cA : Nat → ClassId} {D : va_G} {s U : State} (hv : s.vm = U.vm) (h : NFa cA D s) : NFa cA D U := by
  have ha : s.vm.Alike U.vm := by rw [hv]; exact Vm.Alike.refl _
  obtain ⟨h1, h2, h3, h4, h5, h6, h7, h8, h9⟩ := h
  exact ⟨h1.moved ha, fun e he hn => va_Nw.same rfl hv (h2 e he hn), fun e he hn => va_Nw.same rfl hv (h3 e he hn), va_Nw.same rfl hv h4, va_Nw.same rfl hv h5, h6.moved ha, h7.moved ha, h8.moved ha, h9.moved ha⟩
theorem va_Zq.moved' {C n d : String} {A : Nat → Prop} {u U : State} {H : Heap} (hvm : u.vm.Alike U.vm) (h : va_Zq C n d A u H) : va_Zq C n d A U H := va_Zq.moved hvm h
theorem ROF.moved {ad : Int → Nat} {z : Int → Int} {A : Nat → Prop} {u U : State} {H : Heap} (hvm : u.vm.Alike U.vm) (h : ROF ad z A u H) : ROF ad z A U H := by
  obtain ⟨h1, h2, h3, h4, h5, h6, h7⟩ := h
  exact ⟨h1.moved hvm, h2.moved hvm, h3.moved hvm, h4.moved hvm, fun a ha => (h5 a ha).moved hvm, fun a ha => (h6 a ha).moved hvm, fun i hi => ⟨(h7 i hi).1.moved hvm, (h7 i hi).2.1.moved hvm, (h7 i hi).2.2.moved hvm⟩⟩
theorem ROF.kept {ad : Int → Nat} {z : Int → Int} {A : Nat → Prop} {U : State} {H H1 : Heap} (h : ROF ad z A U H) (hq : ∀ a : Nat, a < H.size → ¬ A a → H1[a]? = H[a]?) : ROF ad z A U H1 := by
  obtain ⟨h1, h2, h3, h4, h5, h6, h7⟩ := h
  exact ⟨h1.kept hq, h2.kept hq, h3.kept hq, h4.kept hq, fun a ha => (h5 a ha).kept hq, fun a ha => (h6 a ha).kept hq, fun i hi => ⟨(h7 i hi).1.kept hq, (h7 i hi).2.1.kept hq, (h7 i hi).2.2.kept hq⟩⟩
theorem KB.warm {base : Nat} {ad : Int → Nat} {z : Int → Int} {cA : Nat → ClassId} {D : va_G} {s U : State} {H H1 : Heap} (hW : s.WarmedH U.vm) (h : KB base ad z cA D s H) (hq : ∀ a : Nat, a < H.size → ¬ ZA base a → H1[a]? = H[a]?) : KB base ad z cA D U H1 :=
  ⟨h.1.warm hW, (h.2.1.moved hW.alike).kept hq, fun i e he => (h.2.2 i e he).warm hW⟩
theorem KB.same {base : Nat} {ad : Int → Nat} {z : Int → Int} {cA : Nat → ClassId} {D : va_G} {s U : State} {H : Heap} (hv : s.vm = U.vm) (h : KB base ad z cA D s H) : KB base ad z cA D U H :=
  ⟨h.1.same hv, h.2.1.moved (by rw [hv]; exact Vm.Alike.refl _), fun i e he => (h.2.2 i e he).same hv.symm⟩
