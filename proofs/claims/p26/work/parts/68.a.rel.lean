/-! ===== WHAT AN ABSTRACT STATE SAYS OF A FLAGGED ONE ===== -/
/-- an entry: of a cell, what it holds (and that it is defined); of a row, from a place on, how many are defined -/
def okN (σ : Nat → Int) (n : Nat) (e : Nat × AP) (h : PH) : Prop := if e.1 < 65536 then (okP σ n e.2 (h ((e.1 / 256 : Nat) : Int) ((e.1 % 256 : Nat) : Int)) ∧ rdk h ((e.1 / 256 : Nat) : Int) ((e.1 % 256 : Nat) : Int) = true)
  else rLt n e.2.2 = true ∧ ∀ j : Int, (((e.1 - 65536) % 256 : Nat) : Int) ≤ j → j < (((e.1 - 65536) % 256 : Nat) : Int) + ev σ e.2 → h ((((e.1 - 65536) / 256 : Nat) : Int) + 4096) j = 1
theorem okN.up {σ σ' : Nat → Int} {n m : Nat} {e : Nat × AP} {h : PH} (k : okN σ n e h) (hn : n ≤ m) (ha : AG n σ σ') : okN σ' m e h := by
  unfold okN at k ⊢
  by_cases hc : e.1 < 65536
  · rw [if_pos hc] at k ⊢
    exact ⟨k.1.up hn ha, k.2⟩
  · rw [if_neg hc] at k ⊢
    have he : ev σ' e.2 = ev σ e.2 := by unfold ev; rw [evR_ag ha k.1]
    exact ⟨rLt_mono hn k.1, by rw [he]; exact k.2⟩
def tOv (σ : Nat → Int) (n : Nat) (ov : OV) (h : PH) : Prop := ∀ e ∈ ov, okN σ n e h
theorem tOv.up {σ σ' : Nat → Int} {n m : Nat} {ov : OV} {h : PH} (k : tOv σ n ov h) (hn : n ≤ m) (ha : AG n σ σ') : tOv σ' m ov h := fun e he => (k e he).up hn ha
/-- of the script: its length, a place in it, the items from there on -/
abbrev ZT : Type := AP × AP × List AP
def tqZ (z : Int → Int) (Z : Option ZT) (σ : Nat → Int) (n : Nat) : Prop := z (-1) < 2147483648 ∧ (∀ j, -2147483648 ≤ z j ∧ z j ≤ 2147483647) ∧ ∀ p, Z = some p → okP σ n p.1 (z (-1)) ∧ rLt n p.2.1.2 = true ∧ ∀ k q, nth p.2.2 k = some q → okP σ n q (z (ev σ p.2.1 + (k : Int)))
theorem tqZ.up {z : Int → Int} {Z : Option ZT} {σ σ' : Nat → Int} {n m : Nat} (h : tqZ z Z σ n) (hn : n ≤ m) (ha : AG n σ σ') : tqZ z Z σ' m := ⟨h.1, h.2.1, fun p hp => ⟨(h.2.2 p hp).1.up hn ha, rLt_mono hn (h.2.2 p hp).2.1, fun k q hq => by
    have e : ev σ' p.2.1 = ev σ p.2.1 := by unfold ev; rw [evR_ag ha (h.2.2 p hp).2.1]
    rw [e]
    exact ((h.2.2 p hp).2.2 k q hq).up hn ha⟩⟩
def tH (I : PH → Prop) (z : Int → Int) (Z : Option ZT) (σ : Nat → Int) (C : Cx) (ov : OV) (h : PH) (g : PG) : Prop := satC σ C ∧ tqZ z Z σ (nV C) ∧ I h ∧ gInv g ∧ tOv σ (nV C) ov h
def tA (I : PH → Prop) (z : Int → Int) (Z : Option ZT) (σ : Nat → Int) (A : AS) (c : Cfg) : Prop := A.2.1 = c.1 ∧ qLs σ (nV A.1) A.2.2.1 c.2.1 ∧ qSs σ (nV A.1) A.2.2.2.1 c.2.2.1 ∧ tH I z Z σ A.1 A.2.2.2.2 c.2.2.2.1 c.2.2.2.2
theorem tH.ctx {I : PH → Prop} {z : Int → Int} {Z : Option ZT} {σ : Nat → Int} {C C' : Cx} {ov : OV} {h : PH} {g : PG} (k : tH I z Z σ C ov h g) (hs : satC σ C') (hn : C'.1.length = C.1.length) : tH I z Z σ C' ov h g := by
  obtain ⟨-, k2, k3, k4, k5⟩ := k
  have e : nV C' = nV C := hn
  exact ⟨hs, by rw [e]; exact k2, k3, k4, by rw [e]; exact k5⟩
theorem tH.ext {I : PH → Prop} {z : Int → Int} {Z : Option ZT} {σ σ' : Nat → Int} {C C' : Cx} {ov : OV} {h : PH} {g : PG} (k : tH I z Z σ C ov h g) (hs : satC σ' C') (hn : nV C ≤ nV C') (ha : AG (nV C) σ σ') : tH I z Z σ' C' ov h g :=
  ⟨hs, k.2.1.up hn ha, k.2.2.1, k.2.2.2.1, k.2.2.2.2.up hn ha⟩
