/-! ===== every step of the plain machine is a step of the machine, 2 ===== -/
theorem tyI_put {ci k : Nat} {v : Int} (hci : ci < 9) (hk : k < (vwCl.getD ci (RX0, TX0, 0)).2.2) (hf : fty ci k = 0) (hb : v = 0 ∨ v = 1 ∨ ¬ parseFieldDescriptor ((vwCl.getD ci (RX0, TX0, 0)).2.1 k).2.2.1 = some .boolean) : narrow (tyOf ci k) (.int (Int32.ofInt v)) = .int (Int32.ofInt v) ∧ fits (tyOf ci k) (.int (Int32.ofInt v)) = true := by
  obtain ⟨r, hr, hrd, -, hfl, -⟩ := cl_get hci
  rw [hrd] at hk hb
  obtain ⟨-, d2, -, d4, -⟩ := hfl k hk
  rcases d4 hf with h | h
  · rw [h]
    exact ⟨rfl, rfl⟩
  · rw [h]
    rw [d2, h] at hb
    rcases hb with rfl | rfl | hb
    · exact ⟨rfl, rfl⟩
    · exact ⟨rfl, rfl⟩
    · exact absurd rfl hb
theorem tyR_put {ci k : Nat} {a : Nat} (hci : ci < 9) (hk : k < (vwCl.getD ci (RX0, TX0, 0)).2.2) (hf : ¬ fty ci k = 0) : narrow (tyOf ci k) (.ref a) = .ref a ∧ fits (tyOf ci k) (.ref a) = true := by
  obtain ⟨r, hr, hrd, -, hfl, -⟩ := cl_get hci
  rw [hrd] at hk
  have h := (hfl k hk).2.2.2.2.1 hf
  cases ht : tyOf ci k with
  | object _ => exact ⟨rfl, rfl⟩
  | array _ => exact ⟨rfl, rfl⟩
  | _ => rw [ht] at h; cases h
section FRH
variable {base : Nat} {ad : Int → Nat} {z : Int → Int} {cA : Nat → ClassId} {D : va_G} {n0 mi : Nat} {p : Program} {l : Launch} {e : Env} {R : Room} {s : State} {m : MethodId} {args : Array Value} {below : List Frame} {meth : Method} {c : Code} {Q : State → Prop}
variable {pc : Nat} {ls : PL} {st : List PV} {h : PH} {g : PG} {k : Cfg}
theorem n_iconst {i : Int} (hd : decode (mC mi) pc = .ok (.iconst i, 1)) (hx : nx (pc + 1) ls (.inl i :: st) h g = some (.inl k)) : g.1 ≤ k.2.2.2.2.1 ∧ (g.1 ≤ nCell → k.2.2.2.2.1 ≤ nCell) ∧ ∀ (_ : FO base ad z cA D p s m args meth c mi) (_ : RoomOK R mi n0 k.2.2.2.2.1) (_ : n0 ≤ g.1) (_ : WG base ad cA D n0 mi p l e R s m args below meth c Q k), WG base ad cA D n0 mi p l e R s m args below meth c Q (pc, ls, st, h, g) := by
  obtain rfl := inl_inj hx
  exact ⟨Nat.le_refl _, fun q => q, fun F _ _ k9 => s_iconst F hd k9⟩
theorem n_bipush {i : Int} (hi : -128 ≤ i ∧ i ≤ 127) (hd : decode (mC mi) pc = .ok (.bipush i, 2)) (hx : nx (pc + 2) ls (.inl i :: st) h g = some (.inl k)) : g.1 ≤ k.2.2.2.2.1 ∧ (g.1 ≤ nCell → k.2.2.2.2.1 ≤ nCell) ∧ ∀ (_ : FO base ad z cA D p s m args meth c mi) (_ : RoomOK R mi n0 k.2.2.2.2.1) (_ : n0 ≤ g.1) (_ : WG base ad cA D n0 mi p l e R s m args below meth c Q k), WG base ad cA D n0 mi p l e R s m args below meth c Q (pc, ls, st, h, g) := by
  obtain rfl := inl_inj hx
  exact ⟨Nat.le_refl _, fun q => q, fun F _ _ k9 => s_bipush F hd hi k9⟩
theorem n_sipush {i : Int} (hi : -32768 ≤ i ∧ i ≤ 32767) (hd : decode (mC mi) pc = .ok (.sipush i, 3)) (hx : nx (pc + 3) ls (.inl i :: st) h g = some (.inl k)) : g.1 ≤ k.2.2.2.2.1 ∧ (g.1 ≤ nCell → k.2.2.2.2.1 ≤ nCell) ∧ ∀ (_ : FO base ad z cA D p s m args meth c mi) (_ : RoomOK R mi n0 k.2.2.2.2.1) (_ : n0 ≤ g.1) (_ : WG base ad cA D n0 mi p l e R s m args below meth c Q k), WG base ad cA D n0 mi p l e R s m args below meth c Q (pc, ls, st, h, g) := by
  obtain rfl := inl_inj hx
  exact ⟨Nat.le_refl _, fun q => q, fun F _ _ k9 => s_sipush F hd hi k9⟩
theorem n_lconst {i : Fin 2} (hd : decode (mC mi) pc = .ok (.lconst i, 1)) (hx : nx (pc + 1) ls (.inr (.inl ((i : Nat) : Int)) :: st) h g = some (.inl k)) : g.1 ≤ k.2.2.2.2.1 ∧ (g.1 ≤ nCell → k.2.2.2.2.1 ≤ nCell) ∧ ∀ (_ : FO base ad z cA D p s m args meth c mi) (_ : RoomOK R mi n0 k.2.2.2.2.1) (_ : n0 ≤ g.1) (_ : WG base ad cA D n0 mi p l e R s m args below meth c Q k), WG base ad cA D n0 mi p l e R s m args below meth c Q (pc, ls, st, h, g) := by
  obtain rfl := inl_inj hx
  exact ⟨Nat.le_refl _, fun q => q, fun F _ _ k9 => s_lconst F hd k9⟩
theorem n_getfield {i : Nat} (hd : decode (mC mi) pc = .ok (.getfield i, 3)) (hx : getF (mO mi) i pc ls st h g = some (.inl k)) : g.1 ≤ k.2.2.2.2.1 ∧ (g.1 ≤ nCell → k.2.2.2.2.1 ≤ nCell) ∧ ∀ (_ : FO base ad z cA D p s m args meth c mi) (_ : RoomOK R mi n0 k.2.2.2.2.1) (_ : n0 ≤ g.1) (_ : WG base ad cA D n0 mi p l e R s m args below meth c Q k), WG base ad cA D n0 mi p l e R s m args below meth c Q (pc, ls, st, h, g) := by
  unfold getF at hx
  split at hx
  · rename_i a9 s9
    split at hx
    · rename_i ci k8 b hf
      split at hx
      · rename_i ho
        split at hx
        · rename_i f0
          obtain rfl := inl_inj hx
          exact ⟨Nat.le_refl _, fun q => q, fun F _ _ k9 => s_get (v := .inl _) F hd hf ho (if_pos f0) k9⟩
        · rename_i f0
          split at hx
          · rename_i f1
            split at hx
            · rename_i h1
              obtain rfl := inl_inj hx
              exact ⟨Nat.le_refl _, fun q => q, fun F _ _ k9 => s_get (v := .inr (.inr _)) F hd hf ho ((if_neg f0).trans ((if_pos f1).trans (rnv_ref h1))) k9⟩
            · cases hx
          · rename_i f1
            split at hx
            · split at hx
              · rename_i f2 h1
                obtain rfl := inl_inj hx
                exact ⟨Nat.le_refl _, fun q => q, fun F _ _ k9 => s_get (v := .inr (.inr _)) F hd hf ho ((if_neg f0).trans ((if_neg f1).trans (rnv_ref h1))) k9⟩
              · cases hx
            · cases hx
      · cases hx
    · split at hx
      · rename_i h1
        have e1 : a9 = 1010 + ((a9 - 1010).toNat : Int) := by omega
        split at hx
        · rename_i hi
          subst hi
          obtain rfl := inl_inj hx
          refine ⟨Nat.le_refl _, fun q => q, fun F _ _ k9 => ?_⟩
          rw [e1]
          refine s_strVal (q := (a9 - 1010).toNat) F h1.1 (by omega) hd ?_
          rw [show (1020 : Int) + ((a9 - 1010).toNat : Int) = a9 + 10 by omega]
          exact k9
        · split at hx
          · rename_i hi
            subst hi
            obtain rfl := inl_inj hx
            refine ⟨Nat.le_refl _, fun q => q, fun F _ _ k9 => ?_⟩
            rw [e1]
            exact s_strCod (q := (a9 - 1010).toNat) F h1.1 (by omega) hd k9
          · cases hx
      · cases hx
  · cases hx
theorem n_putfield {i : Nat} (hd : decode (mC mi) pc = .ok (.putfield i, 3)) (hx : putF (decide (mK mi = 2)) (mO mi) i pc ls st h g = some (.inl k)) : g.1 ≤ k.2.2.2.2.1 ∧ (g.1 ≤ nCell → k.2.2.2.2.1 ≤ nCell) ∧ ∀ (_ : FO base ad z cA D p s m args meth c mi) (_ : RoomOK R mi n0 k.2.2.2.2.1) (_ : n0 ≤ g.1) (_ : WG base ad cA D n0 mi p l e R s m args below meth c Q k), WG base ad cA D n0 mi p l e R s m args below meth c Q (pc, ls, st, h, g) := by
  unfold putF at hx
  split at hx
  · rename_i ci k8 b hf
    obtain ⟨e9, he, e1, e2, e3, e4, e5, hci, hk, hw⟩ := fldT_spec hf
    split at hx
    · split at hx
      · rename_i v a s2 h1
        obtain rfl := inl_inj hx
        obtain ⟨t1, t2⟩ := tyI_put hci hk h1.2.1 h1.2.2
        exact ⟨Nat.le_refl _, fun q => q, fun F _ _ k9 => s_put (v := .inl v) (h' := u2 h a k8 v) (g' := g) F hd hf h1.1 rfl (fun b hb j => if_neg hb) (fun _ _ _ => rfl) ((if_pos h1.2.1).trans (congrArg (fun x => Value.int (Int32.ofInt x)) (u2_s.trans (if_pos rfl)))) (fun j hj => by have q9 : ¬ (j : Int) = (k8 : Int) := (by omega); simp only [slotV, u2_s, if_neg q9]) t1 t2 (fun q => by rw [h1.2.1] at q; cases q) k9⟩
      · cases hx
    · split at hx
      · rename_i v a s2 h1
        split at hx
        · rename_i h2
          obtain rfl := inl_inj hx
          obtain ⟨t1, t2⟩ := tyR_put (a := ad v) hci hk (by rw [h2.1]; decide)
          exact ⟨Nat.le_refl _, fun q => q, fun F _ _ k9 => s_put (v := .inr (.inr v)) (h' := h) (g' := (g.1, u2 g.2 a k8 v)) F hd hf h1.1 rfl (fun _ _ _ => rfl) (fun b hb j => if_neg hb) ((if_neg (by rw [h2.1]; decide)).trans ((if_pos h2.1).trans ((congrArg (fun x => va_rf (rnv ad x)) (u2_s.trans (if_pos rfl))).trans (rnv_ref h1.2)))) (fun j hj => by have q9 : ¬ (j : Int) = (k8 : Int) := (by omega); simp only [slotV, u2_s, if_neg q9]) t1 t2 (fun _ => ⟨by simpa using h2.2.1, h2.2.2⟩) k9⟩
        · split at hx
          · rename_i h2
            obtain rfl := inl_inj hx
            obtain ⟨t1, t2⟩ := tyR_put (a := ad v) hci hk (by rw [h2]; decide)
            exact ⟨Nat.le_refl _, fun q => q, fun F _ _ k9 => s_put (v := .inr (.inr v)) (h' := u2 h a k8 v) (g' := g) F hd hf h1.1 rfl (fun b hb j => if_neg hb) (fun _ _ _ => rfl) ((if_neg (by rw [h2]; decide)).trans ((if_neg (by rw [h2]; decide)).trans ((congrArg (fun x => va_rf (rnv ad x)) (u2_s.trans (if_pos rfl))).trans (rnv_ref h1.2)))) (fun j hj => by have q9 : ¬ (j : Int) = (k8 : Int) := (by omega); simp only [slotV, u2_s, if_neg q9]) t1 t2 (fun q => by rw [h2] at q; cases q) k9⟩
          · cases hx
      · cases hx
    · cases hx
  · cases hx
theorem n_getstatic {i : Nat} (hd : decode (mC mi) pc = .ok (.getstatic i, 3)) (hx : getS (mO mi) i pc ls st h g = some (.inl k)) : g.1 ≤ k.2.2.2.2.1 ∧ (g.1 ≤ nCell → k.2.2.2.2.1 ≤ nCell) ∧ ∀ (_ : FO base ad z cA D p s m args meth c mi) (_ : RoomOK R mi n0 k.2.2.2.2.1) (_ : n0 ≤ g.1) (_ : WG base ad cA D n0 mi p l e R s m args below meth c Q k), WG base ad cA D n0 mi p l e R s m args below meth c Q (pc, ls, st, h, g) := by
  unfold getS at hx
  split at hx
  · rename_i h1
    obtain ⟨h1, rfl⟩ := h1
    obtain rfl := inl_inj hx
    exact ⟨Nat.le_refl _, fun q => q, fun F _ _ k9 => s_kindAbove F h1 hd k9⟩
  · split at hx
    · rename_i h1
      obtain ⟨h1, rfl⟩ := h1
      obtain rfl := inl_inj hx
      exact ⟨Nat.le_refl _, fun q => q, fun F _ _ k9 => s_numbersBehind F h1 hd k9⟩
    · split at hx
      · rename_i h1
        obtain ⟨h1, rfl⟩ := h1
        obtain rfl := inl_inj hx
        exact ⟨Nat.le_refl _, fun q => q, fun F _ _ k9 => s_compact F h1 hd k9⟩
      · cases hx
theorem n_ldc {i : Nat} (hd : decode (mC mi) pc = .ok (.ldc i, 2)) (hx : (match cstT (mO mi) i with
    | some v => nx (pc + 2) ls (.inl v :: st) h g
    | none => match strT (mO mi) i with
      | some q => nx (pc + 2) ls (.inr (.inr (1010 + (q : Int))) :: st) h g
      | none => none) = some (.inl k)) : g.1 ≤ k.2.2.2.2.1 ∧ (g.1 ≤ nCell → k.2.2.2.2.1 ≤ nCell) ∧ ∀ (_ : FO base ad z cA D p s m args meth c mi) (_ : RoomOK R mi n0 k.2.2.2.2.1) (_ : n0 ≤ g.1) (_ : WG base ad cA D n0 mi p l e R s m args below meth c Q k), WG base ad cA D n0 mi p l e R s m args below meth c Q (pc, ls, st, h, g) := by
  split at hx
  · rename_i h1
    obtain rfl := inl_inj hx
    exact ⟨Nat.le_refl _, fun q => q, fun F _ _ k9 => s_ldc F hd h1 k9⟩
  · split at hx
    · rename_i h1
      obtain rfl := inl_inj hx
      exact ⟨Nat.le_refl _, fun q => q, fun F _ _ k9 => s_ldcS F hd h1 k9⟩
    · cases hx
theorem n_ldcw {i : Nat} (hd : decode (mC mi) pc = .ok (.ldc_w i, 3)) (hx : (match cstT (mO mi) i with
    | some v => nx (pc + 3) ls (.inl v :: st) h g
    | none => none) = some (.inl k)) : g.1 ≤ k.2.2.2.2.1 ∧ (g.1 ≤ nCell → k.2.2.2.2.1 ≤ nCell) ∧ ∀ (_ : FO base ad z cA D p s m args meth c mi) (_ : RoomOK R mi n0 k.2.2.2.2.1) (_ : n0 ≤ g.1) (_ : WG base ad cA D n0 mi p l e R s m args below meth c Q k), WG base ad cA D n0 mi p l e R s m args below meth c Q (pc, ls, st, h, g) := by
  split at hx
  · rename_i h1
    obtain rfl := inl_inj hx
    exact ⟨Nat.le_refl _, fun q => q, fun F _ _ k9 => s_ldcw F hd h1 k9⟩
  · cases hx
theorem n_ldc2 {i : Nat} (hd : decode (mC mi) pc = .ok (.ldc2_w i, 3)) (hx : (match clgT (mO mi) i with
    | some v => nx (pc + 3) ls (.inr (.inl v) :: st) h g
    | none => none) = some (.inl k)) : g.1 ≤ k.2.2.2.2.1 ∧ (g.1 ≤ nCell → k.2.2.2.2.1 ≤ nCell) ∧ ∀ (_ : FO base ad z cA D p s m args meth c mi) (_ : RoomOK R mi n0 k.2.2.2.2.1) (_ : n0 ≤ g.1) (_ : WG base ad cA D n0 mi p l e R s m args below meth c Q k), WG base ad cA D n0 mi p l e R s m args below meth c Q (pc, ls, st, h, g) := by
  split at hx
  · rename_i h1
    obtain rfl := inl_inj hx
    exact ⟨Nat.le_refl _, fun q => q, fun F _ _ k9 => s_ldc2 F hd h1 k9⟩
  · cases hx
theorem n_new {i : Nat} (hd : decode (mC mi) pc = .ok (.new i, 3)) (hx : newO (mO mi) i pc ls st h g = some (.inl k)) : g.1 ≤ k.2.2.2.2.1 ∧ (g.1 ≤ nCell → k.2.2.2.2.1 ≤ nCell) ∧ ∀ (_ : FO base ad z cA D p s m args meth c mi) (_ : RoomOK R mi n0 k.2.2.2.2.1) (_ : n0 ≤ g.1) (_ : WG base ad cA D n0 mi p l e R s m args below meth c Q k), WG base ad cA D n0 mi p l e R s m args below meth c Q (pc, ls, st, h, g) := by
  unfold newO at hx
  split at hx
  · rename_i ci h1
    split at hx
    · rename_i h2
      obtain rfl := inl_inj hx
      exact ⟨Nat.le_succ _, fun _ => h2.2.1, fun F r9 n9 k9 => s_new F hd h1 h2.1 h2.2.1 h2.2.2 n9 r9.2.2.1 r9.2.2.2 k9⟩
    · cases hx
  · cases hx
theorem n_newarrI  (hd : decode (mC mi) pc = .ok (.newarray .int, 2)) (hx : newA 10 2 pc ls st h g = some (.inl k)) : g.1 ≤ k.2.2.2.2.1 ∧ (g.1 ≤ nCell → k.2.2.2.2.1 ≤ nCell) ∧ ∀ (_ : FO base ad z cA D p s m args meth c mi) (_ : RoomOK R mi n0 k.2.2.2.2.1) (_ : n0 ≤ g.1) (_ : WG base ad cA D n0 mi p l e R s m args below meth c Q k), WG base ad cA D n0 mi p l e R s m args below meth c Q (pc, ls, st, h, g) := by
  unfold newA at hx
  split at hx
  · split at hx
    · rename_i h2
      obtain rfl := inl_inj hx
      exact ⟨Nat.le_succ _, fun _ => h2.2.2.1, fun F r9 n9 k9 => s_newarrI F hd h2.1 h2.2.1 h2.2.2.1 h2.2.2.2 n9 r9.2.2.1 r9.2.2.2 k9⟩
    · cases hx
  · cases hx
theorem n_newarrJ  (hd : decode (mC mi) pc = .ok (.newarray .long, 2)) (hx : newA 11 2 pc ls st h g = some (.inl k)) : g.1 ≤ k.2.2.2.2.1 ∧ (g.1 ≤ nCell → k.2.2.2.2.1 ≤ nCell) ∧ ∀ (_ : FO base ad z cA D p s m args meth c mi) (_ : RoomOK R mi n0 k.2.2.2.2.1) (_ : n0 ≤ g.1) (_ : WG base ad cA D n0 mi p l e R s m args below meth c Q k), WG base ad cA D n0 mi p l e R s m args below meth c Q (pc, ls, st, h, g) := by
  unfold newA at hx
  split at hx
  · split at hx
    · rename_i h2
      obtain rfl := inl_inj hx
      exact ⟨Nat.le_succ _, fun _ => h2.2.2.1, fun F r9 n9 k9 => s_newarrJ F hd h2.1 h2.2.1 h2.2.2.1 h2.2.2.2 n9 r9.2.2.1 r9.2.2.2 k9⟩
    · cases hx
  · cases hx
theorem n_newarrC  (hd : decode (mC mi) pc = .ok (.newarray .char, 2)) (hx : newA 12 2 pc ls st h g = some (.inl k)) : g.1 ≤ k.2.2.2.2.1 ∧ (g.1 ≤ nCell → k.2.2.2.2.1 ≤ nCell) ∧ ∀ (_ : FO base ad z cA D p s m args meth c mi) (_ : RoomOK R mi n0 k.2.2.2.2.1) (_ : n0 ≤ g.1) (_ : WG base ad cA D n0 mi p l e R s m args below meth c Q k), WG base ad cA D n0 mi p l e R s m args below meth c Q (pc, ls, st, h, g) := by
  unfold newA at hx
  split at hx
  · split at hx
    · rename_i h2
      obtain rfl := inl_inj hx
      exact ⟨Nat.le_succ _, fun _ => h2.2.2.1, fun F r9 n9 k9 => s_newarrC F hd h2.1 h2.2.1 h2.2.2.1 h2.2.2.2 n9 r9.2.2.1 r9.2.2.2 k9⟩
    · cases hx
  · cases hx
theorem no97_all : (List.range nCell).all (fun a => decide (¬ (shL.getD a (99, 0)).1 = 97)) = true := by decide +kernel
theorem n_anew {i : Nat} (hd : decode (mC mi) pc = .ok (.anewarray i, 3)) (hx : (match clsT (mO mi) i with
    | some c => newA (aRow c) 3 pc ls st h g
    | none => none) = some (.inl k)) : g.1 ≤ k.2.2.2.2.1 ∧ (g.1 ≤ nCell → k.2.2.2.2.1 ≤ nCell) ∧ ∀ (_ : FO base ad z cA D p s m args meth c mi) (_ : RoomOK R mi n0 k.2.2.2.2.1) (_ : n0 ≤ g.1) (_ : WG base ad cA D n0 mi p l e R s m args below meth c Q k), WG base ad cA D n0 mi p l e R s m args below meth c Q (pc, ls, st, h, g) := by
  split at hx
  · rename_i ci h1
    unfold newA at hx
    split at hx
    · split at hx
      · rename_i h2
        obtain rfl := inl_inj hx
        have hk : (ci = 1 ∧ aRow ci = 13) ∨ (ci = 4 ∧ aRow ci = 14) ∨ (ci = 5 ∧ aRow ci = 15) := by
          by_cases q1 : ci = 1
          · subst q1; exact Or.inl ⟨rfl, rfl⟩
          · by_cases q4 : ci = 4
            · subst q4; exact Or.inr (Or.inl ⟨rfl, rfl⟩)
            · by_cases q5 : ci = 5
              · subst q5; exact Or.inr (Or.inr ⟨rfl, rfl⟩)
              · exfalso
                have e9 : aRow ci = 97 := by unfold aRow; rw [if_neg q1, if_neg q4, if_neg q5]
                have h3 := h2.2.2.2
                rw [e9] at h3
                exact of_decide_eq_true (List.all_eq_true.mp no97_all g.1 (List.mem_range.mpr h2.2.2.1)) (by rw [h3])
        exact ⟨Nat.le_succ _, fun _ => h2.2.2.1, fun F r9 n9 k9 => s_anew F hd h1 hk h2.1 h2.2.1 h2.2.2.1 h2.2.2.2 n9 r9.2.2.1 r9.2.2.2 k9⟩
      · cases hx
    · cases hx
  · cases hx
theorem n_multi {i : Nat} (hc : clsT (mO mi) i = some 16) (hd : decode (mC mi) pc = .ok (.multianewarray i 2, 4)) (hx : newM pc ls st h g = some (.inl k)) : g.1 ≤ k.2.2.2.2.1 ∧ (g.1 ≤ nCell → k.2.2.2.2.1 ≤ nCell) ∧ ∀ (_ : FO base ad z cA D p s m args meth c mi) (_ : RoomOK R mi n0 k.2.2.2.2.1) (_ : n0 ≤ g.1) (_ : WG base ad cA D n0 mi p l e R s m args below meth c Q k), WG base ad cA D n0 mi p l e R s m args below meth c Q (pc, ls, st, h, g) := by
  unfold newM at hx
  split at hx
  · split at hx
    · rename_i h2
      obtain rfl := inl_inj hx
      obtain ⟨a1, a2, a3, a4, a5, a6, a7⟩ := h2
      refine ⟨by show g.1 ≤ g.1 + 1 + _; omega, fun _ => by show g.1 + 1 + _ ≤ nCell; omega, fun F r9 n9 k9 => s_multi F hd hc a1 a2 a3 a4 a5 a6 (fun j hj => ?_) n9 r9.2.2.1 r9.2.2.2 rfl rfl k9⟩
      have := List.all_eq_true.mp a7 j (List.mem_range.mpr hj)
      simpa using this
    · cases hx
  · cases hx
theorem n_bltI {i : Nat} (hb9 : bltT (mO mi) i = some 1) (hd : decode (mC mi) pc = .ok (.invokespecial i, 3)) (hx : doBlt mi (mO mi) i pc ls st h g = some (.inl k)) : g.1 ≤ k.2.2.2.2.1 ∧ (g.1 ≤ nCell → k.2.2.2.2.1 ≤ nCell) ∧ ∀ (_ : FO base ad z cA D p s m args meth c mi) (_ : RoomOK R mi n0 k.2.2.2.2.1) (_ : n0 ≤ g.1) (_ : WG base ad cA D n0 mi p l e R s m args below meth c Q k), WG base ad cA D n0 mi p l e R s m args below meth c Q (pc, ls, st, h, g) := by
  unfold doBlt at hx
  split at hx
  · rename_i hr
    rw [hb9] at hx
    simp only at hx
    split at hx
    · split at hx
      · rename_i h1
        obtain rfl := inl_inj hx
        exact ⟨Nat.le_refl _, fun q => q, fun F r9 n9 k9 => s_objInit F hd hb9 (by have := r9.1; omega) (by have := r9.2.1; omega) h1 k9⟩
      · cases hx
    · cases hx
  · cases hx
theorem n_bltS {i : Nat} (hb9 : ¬ bltT (mO mi) i = none) (hb8 : ¬ bltT (mO mi) i = some 1) (hd : decode (mC mi) pc = .ok (.invokestatic i, 3)) (hx : doBlt mi (mO mi) i pc ls st h g = some (.inl k)) : g.1 ≤ k.2.2.2.2.1 ∧ (g.1 ≤ nCell → k.2.2.2.2.1 ≤ nCell) ∧ ∀ (_ : FO base ad z cA D p s m args meth c mi) (_ : RoomOK R mi n0 k.2.2.2.2.1) (_ : n0 ≤ g.1) (_ : WG base ad cA D n0 mi p l e R s m args below meth c Q k), WG base ad cA D n0 mi p l e R s m args below meth c Q (pc, ls, st, h, g) := by
  unfold doBlt at hx
  split at hx
  · rename_i hr
    split at hx
    · rename_i q
      exact absurd q hb8
    · rename_i q
      split at hx
      · split at hx
        · rename_i h1
          obtain rfl := inl_inj hx
          exact ⟨Nat.le_refl _, fun q => q, fun F r9 n9 k9 => s_copy F hd q (by have := r9.1; omega) (by have := r9.2.1; omega) h1.2.2.2.2.2.2.2 h1.1 h1.2.1 h1.2.2.1 h1.2.2.2.1 h1.2.2.2.2.1 h1.2.2.2.2.2.1 h1.2.2.2.2.2.2.1 k9⟩
        · cases hx
      · cases hx
    · rename_i q
      split at hx
      · split at hx
        · rename_i h1
          obtain rfl := inl_inj hx
          exact ⟨Nat.le_refl _, fun q => q, fun F r9 n9 k9 => s_max F hd q (by have := r9.1; omega) (by have := r9.2.1; omega) h1 r9.2.2.1 r9.2.2.2 k9⟩
        · cases hx
      · cases hx
    · rename_i q
      split at hx
      · split at hx
        · rename_i h1
          obtain rfl := inl_inj hx
          exact ⟨Nat.le_refl _, fun q => q, fun F r9 n9 k9 => s_chk F hd q (by have := r9.1; omega) (by have := r9.2.1; omega) h1.2.2 r9.2.2.1 r9.2.2.2 h1.1 h1.2.1 k9⟩
        · cases hx
      · cases hx
    · cases hx
  · cases hx

end FRH
