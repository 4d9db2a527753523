/-! ===== steps by hand: the model's fields and rows, calls, sets ===== -/
theorem rd_ns {h : PH} {a k : Int} (hs : scrt a k = false) : rdk h a k = true := by
  unfold rdk
  rw [hs]
  rfl
theorem rd_fl {h : PH} {a k : Int} (hf : h (a + 4096) k = 1) : rdk h a k = true := by
  unfold rdk
  rw [hf]
  simp
theorem gfRef {z : Int → Int} {m k pc f w r : Nat} {ls : PL} {st : List PV} {h : PH} {g : PG} (hm : mO m = 8) (hf : fldT 8 k = some (8, f, w)) (ht : fty 8 f = 1) (hr : rtab 213 f = (r : Int)) (hs : scrt 213 (f : Int) = false) (hg : gInv g) : xiD z m (.getfield k) 3 pc ls (vR 213 :: st) h g = some (.inl (pc + 3, ls, vR (r : Int) :: st, h, g)) := by
  have e3 : g.2 213 (f : Int) = (r : Int) := by
    have k1 := hg.2 213 f (by decide)
    have k2 : rtab ((213 : Nat) : Int) (f : Int) = (r : Int) := hr
    rw [k2] at k1
    exact k1 (by omega)
  have e2 : isO 213 8 g.1 = true := by
    rw [hg.1]
    decide +kernel
  unfold xiD
  simp only [hm, hf]
  rw [rd_ns hs]
  simp only [cond_true]
  unfold xi
  simp only
  rw [if_pos trivial]
  unfold getF
  simp only [hm, hf]
  rw [if_pos e2, if_neg (by rw [ht]; decide), if_pos ht, e3, if_pos (by omega)]
  rfl
theorem gfInt {z : Int → Int} {m k pc f w : Nat} {ls : PL} {st : List PV} {h : PH} {g : PG} (hm : mO m = 8) (hf : fldT 8 k = some (8, f, w)) (ht : fty 8 f = 0) (hr : rdk h 213 (f : Int) = true) (hg : gInv g) : xiD z m (.getfield k) 3 pc ls (vR 213 :: st) h g = some (.inl (pc + 3, ls, vI (h 213 (f : Int)) :: st, h, g)) := by
  have e2 : isO 213 8 g.1 = true := by
    rw [hg.1]
    decide +kernel
  unfold xiD
  simp only [hm, hf]
  rw [hr]
  simp only [cond_true]
  unfold xi
  simp only
  rw [if_pos trivial]
  unfold getF
  simp only [hm, hf]
  rw [if_pos e2, if_pos ht]
  rfl
theorem pfInt {z : Int → Int} {m k pc f w : Nat} {ls : PL} {st : List PV} {h : PH} {g : PG} {v : Int} (hm : mO m = 8) (hf : fldT 8 k = some (8, f, w)) (ht : fty 8 f = 0) (hb : ¬ parseFieldDescriptor ((vwCl.getD 8 (RX0, TX0, 0)).2.1 f).2.2.1 = some .boolean) (hg : gInv g) : xiD z m (.putfield k) 3 pc ls (vI v :: vR 213 :: st) h g = some (.inl (pc + 3, ls, st, fl1 (u2 h 213 (f : Int) v) 213 (f : Int), g)) := by
  have e2 : isO 213 8 g.1 = true := by
    rw [hg.1]
    decide +kernel
  unfold xiD
  simp only [hm, hf, ht]
  rw [show Nat.beq 0 1 = false from rfl]
  simp only [cond_false]
  unfold xi
  simp only
  rw [if_pos trivial]
  unfold putF
  simp only [hm, hf]
  rw [if_pos ⟨e2, ht, Or.inr (Or.inr hb)⟩]
  rfl
theorem ialR {z : Int → Int} {m pc : Nat} {ls : PL} {st : List PV} {h : PH} {g : PG} {a i j : Int} (hg : gInv g) (ha : isO a 10 nCell = true) (hi : w32 i = j) (h0 : 0 ≤ j) (h1 : j < alen a) (hr : rdk h a j = true) : xiD z m .iaload 1 pc ls (vI i :: vR a :: st) h g = some (.inl (pc + 1, ls, vI (h a j) :: st, h, g)) := by
  have e2 : isO a 10 g.1 = true := by
    rw [hg.1]
    exact ha
  unfold xiD
  simp only
  rw [hi, hr]
  simp only [cond_true]
  unfold xi
  simp only
  rw [if_pos trivial]
  unfold aldI ald
  simp only
  rw [if_pos e2, hi, if_pos ⟨h0, h1⟩]
  rfl
theorem iasR {z : Int → Int} {m pc : Nat} {ls : PL} {st : List PV} {h : PH} {g : PG} {a i j v : Int} (hg : gInv g) (ha : isO a 10 nCell = true) (hi : w32 i = j) (h0 : 0 ≤ j) (h1 : j < alen a) : xiD z m .iastore 1 pc ls (vI v :: vI i :: vR a :: st) h g = some (.inl (pc + 1, ls, st, fl1 (u2 h a j v) a j, g)) := by
  have e2 : isO a 10 g.1 = true := by
    rw [hg.1]
    exact ha
  unfold xiD
  simp only
  unfold xi
  simp only
  rw [if_pos trivial]
  unfold astI
  simp only
  rw [hi, if_pos ⟨e2, h0, h1, trivial⟩]
  rfl
theorem f9 : fldT 8 9 = some (8, 0, 0) := by decide +kernel
theorem f18 : fldT 8 18 = some (8, 3, 0) := by decide +kernel
theorem f21 : fldT 8 21 = some (8, 4, 0) := by decide +kernel
theorem f36 : fldT 8 36 = some (8, 15, 0) := by decide +kernel
theorem f39 : fldT 8 39 = some (8, 16, 0) := by decide +kernel
theorem f241 : fldT 8 241 = some (8, 17, 0) := by decide +kernel
section GFS
variable {z : Int → Int} {m pc : Nat} {ls : PL} {st : List PV} {h : PH} {g : PG}
theorem gfg (hm : mO m = 8) (hg : gInv g) : xiD z m (.getfield 9) 3 pc ls (vR 213 :: st) h g = some (.inl (pc + 3, ls, vR 214 :: st, h, g)) := gfRef (r := 214) hm f9 (by decide +kernel) (by decide +kernel) (by decide +kernel) hg
theorem gfloads (hm : mO m = 8) (hg : gInv g) : xiD z m (.getfield 18) 3 pc ls (vR 213 :: st) h g = some (.inl (pc + 3, ls, vR 216 :: st, h, g)) := gfRef (r := 216) hm f18 (by decide +kernel) (by decide +kernel) (by decide +kernel) hg
theorem gfparts (hm : mO m = 8) (hg : gInv g) : xiD z m (.getfield 21) 3 pc ls (vR 213 :: st) h g = some (.inl (pc + 3, ls, vR 217 :: st, h, g)) := gfRef (r := 217) hm f21 (by decide +kernel) (by decide +kernel) (by decide +kernel) hg
theorem gfways (hm : mO m = 8) (hg : gInv g) : xiD z m (.getfield 36) 3 pc ls (vR 213 :: st) h g = some (.inl (pc + 3, ls, vR 222 :: st, h, g)) := gfRef (r := 222) hm f36 (by decide +kernel) (by decide +kernel) (by decide +kernel) hg
theorem gfline (hm : mO m = 8) (hg : gInv g) : xiD z m (.getfield 39) 3 pc ls (vR 213 :: st) h g = some (.inl (pc + 3, ls, vR 223 :: st, h, g)) := gfRef (r := 223) hm f39 (by decide +kernel) (by decide +kernel) (by decide +kernel) hg
theorem gflined (hm : mO m = 8) (hg : gInv g) (hr : h (213 + 4096) 17 = 1) : xiD z m (.getfield 241) 3 pc ls (vR 213 :: st) h g = some (.inl (pc + 3, ls, vI (h 213 17) :: st, h, g)) := gfInt hm f241 (by decide +kernel) (rd_fl hr) hg
theorem pflined {v : Int} (hm : mO m = 8) (hg : gInv g) : xiD z m (.putfield 241) 3 pc ls (vI v :: vR 213 :: st) h g = some (.inl (pc + 3, ls, st, fl1 (u2 h 213 17 v) 213 17, g)) := pfInt hm f241 (by decide +kernel) (by decide +kernel) hg
/-- how many came -/
theorem ialC (hg : gInv g) : xiD z m .iaload 1 pc ls (vI 0 :: vR 214 :: st) h g = some (.inl (pc + 1, ls, vI (h 214 0) :: st, h, g)) := ialR hg (by decide +kernel) (by decide +kernel) (by decide) (by decide +kernel) (rd_ns (by decide +kernel))
/-- who is gone -/
theorem ialG (hg : gInv g) : xiD z m .iaload 1 pc ls (vI 1 :: vR 214 :: st) h g = some (.inl (pc + 1, ls, vI (h 214 1) :: st, h, g)) := ialR hg (by decide +kernel) (by decide +kernel) (by decide) (by decide +kernel) (rd_ns (by decide +kernel))
theorem cvD {k x n w : Nat} {s r : List PV} (hc : okC m k 0 x n w = true) (hm : mO m = 8) (hg : gInv g) (h1 : Nat.ble n s.length = true) (h2 : Nat.ble (pcats (s.drop n)) 8 = true) (h3 : (s.take n).reverse = vR 213 :: r) (h4 : Nat.beq (w % 16) 8 = true) : xiD z m (.invokevirtual k) 3 pc ls s h g = some (.inr (.inl (x, vR 213 :: r, (pc + 3, ls, s.drop n, h, g)))) := by
  obtain ⟨b, c1, c2, c3, c4, c5, c6, c7, c8⟩ := okC_ok hc
  have hr : isRecv 213 x g.1 = true := by
    unfold isRecv
    rw [← c4, Nat.eq_of_beq_eq_true h4, hg.1]
    decide +kernel
  have k := doCall_is (kd := 0) (m := m) (o := mO m) (k := k) (pc := pc) (l := ls) (s := s) (h := h) (g := g) c1 c5 c6 c7 c8 (by rw [c2]; exact Nat.le_of_ble_eq_true h1) (by rw [c2]; exact Nat.le_of_ble_eq_true h2) (Or.inr ⟨213, r, by rw [c2]; exact h3, fun _ => hr⟩)
  rw [c2, h3] at k
  exact k
theorem csD {k x n w : Nat} {s : List PV} (hc : okC m k 1 x n w = true) (hb : bltT (mO m) k = none) (h1 : Nat.ble n s.length = true) (h2 : Nat.ble (pcats (s.drop n)) 8 = true) {r : List PV} (h3 : (s.take n).reverse = r) : xiD z m (.invokestatic k) 3 pc ls s h g = some (.inr (.inl (x, r, (pc + 3, ls, s.drop n, h, g)))) := by
  obtain ⟨b, c1, c2, c3, c4, c5, c6, c7, c8⟩ := okC_ok hc
  have k := doCall_is (kd := 1) (m := m) (o := mO m) (k := k) (pc := pc) (l := ls) (s := s) (h := h) (g := g) c1 c5 c6 c7 c8 (by rw [c2]; exact Nat.le_of_ble_eq_true h1) (by rw [c2]; exact Nat.le_of_ble_eq_true h2) (Or.inl rfl)
  rw [c2, h3] at k
  unfold xiD
  simp only [hb]
  rw [show decide ((none : Option Nat) = some 2) = false from by decide]
  simp only [cond_false]
  unfold xi
  simp only
  rw [if_pos trivial, if_pos hb]
  exact k
theorem rtI {x : Int} (hr : mR m = some .int) : xiD z m .ireturn 1 pc ls [vI x] h g = some (.inr (.inr (some (vI x), h, g))) := by
  show retI m [vI x] h g = _
  unfold retI
  simp only
  rw [hr]
theorem rtB {x : Int} (hr : mR m = some .boolean) (hx : x = 0 ∨ x = 1) : xiD z m .ireturn 1 pc ls [vI x] h g = some (.inr (.inr (some (vI x), h, g))) := by
  show retI m [vI x] h g = _
  unfold retI
  simp only
  rw [hr]
  simp only
  rw [if_pos hx]
theorem rtV (hr : mR m = none) : xiD z m .return_ 1 pc ls [] h g = some (.inr (.inr (none, h, g))) := by
  show retV m [] h g = _
  unfold retV
  simp only
  rw [if_pos hr]
end GFS
/-! comparisons -/
theorem cclt_t {x y : Int} (h : w32 x < w32 y) : ccmp .lt x y = true := by
  show (decide (w32 x < w32 y)) = true
  rw [decide_eq_true h]
theorem cclt_f {x y : Int} (h : ¬ (w32 x < w32 y)) : ccmp .lt x y = false := by
  show (decide (w32 x < w32 y)) = false
  rw [decide_eq_false h]
theorem ccge_t {x y : Int} (h : ¬ (w32 x < w32 y)) : ccmp .ge x y = true := by
  show (!decide (w32 x < w32 y)) = true
  rw [decide_eq_false h]
  rfl
theorem ccge_f {x y : Int} (h : w32 x < w32 y) : ccmp .ge x y = false := by
  show (!decide (w32 x < w32 y)) = false
  rw [decide_eq_true h]
  rfl
theorem ccgt_t {x y : Int} (h : w32 y < w32 x) : ccmp .gt x y = true := by
  show (decide (w32 y < w32 x)) = true
  rw [decide_eq_true h]
theorem ccgt_f {x y : Int} (h : ¬ (w32 y < w32 x)) : ccmp .gt x y = false := by
  show (decide (w32 y < w32 x)) = false
  rw [decide_eq_false h]
theorem ccle_t {x y : Int} (h : ¬ (w32 y < w32 x)) : ccmp .le x y = true := by
  show (!decide (w32 y < w32 x)) = true
  rw [decide_eq_false h]
  rfl
theorem ccle_f {x y : Int} (h : w32 y < w32 x) : ccmp .le x y = false := by
  show (!decide (w32 y < w32 x)) = false
  rw [decide_eq_true h]
  rfl
theorem cceq_t {x y : Int} (h : w32 x = w32 y) : ccmp .eq x y = true := by
  show (decide (w32 x = w32 y)) = true
  rw [decide_eq_true h]
theorem cceq_f {x y : Int} (h : ¬ (w32 x = w32 y)) : ccmp .eq x y = false := by
  show (decide (w32 x = w32 y)) = false
  rw [decide_eq_false h]
theorem ccne_t {x y : Int} (h : ¬ (w32 x = w32 y)) : ccmp .ne x y = true := by
  show (!decide (w32 x = w32 y)) = true
  rw [decide_eq_false h]
  rfl
theorem ccne_f {x y : Int} (h : w32 x = w32 y) : ccmp .ne x y = false := by
  show (!decide (w32 x = w32 y)) = false
  rw [decide_eq_true h]
  rfl
/-! sets -/
def hasB (s k : Nat) : Bool := Nat.beq (s / 2 ^ k % 2) 1
def rmB (s k : Nat) : Nat := bif hasB s k then s - 2 ^ k else s
theorem has_t : ∀ s : Fin 128, ∀ k : Fin 8, decide (w32 (andI (shrI ((s.val : Nat) : Int) ((k.val : Nat) : Int)) 1) = w32 1) = hasB s.val k.val := by decide +kernel
theorem rm_t : ∀ s : Fin 128, ∀ k : Fin 7, andI ((s.val : Nat) : Int) (xorI (shlI 1 ((k.val : Nat) : Int)) (-1)) = ((rmB s.val k.val : Nat) : Int) := by decide +kernel
theorem rm_l : ∀ s : Fin 128, ∀ k : Fin 7, hasB s.val k.val = true → rmB s.val k.val < s.val := by decide +kernel
theorem has_e {s k : Nat} (hs : s < 128) (hk : k < 8) : decide (w32 (andI (shrI (s : Int) (k : Int)) 1) = w32 1) = hasB s k := has_t ⟨s, hs⟩ ⟨k, hk⟩
theorem rm_e {s k : Nat} (hs : s < 128) (hk : k < 7) : andI (s : Int) (xorI (shlI 1 (k : Int)) (-1)) = ((rmB s k : Nat) : Int) := rm_t ⟨s, hs⟩ ⟨k, hk⟩
theorem rm_lt {s k : Nat} (hs : s < 128) (hk : k < 7) (h : hasB s k = true) : rmB s k < s := rm_l ⟨s, hs⟩ ⟨k, hk⟩ h
theorem w32n {s : Nat} (hs : s < 2147483648) : w32 (s : Int) = (s : Int) := e_small (by omega) (by omega)
