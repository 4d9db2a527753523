/-! ===== handsDown: what it hands on is at most what it bears ===== -/
theorem hm153 : mO 153 = 8 := by decide +kernel
theorem dz153_160 : decode (mC 153) 160 = .ok ((.iload 6), 2) := by decide +kernel
theorem dz153_162 : decode (mC 153) 162 = .ok ((.aload_n 0), 1) := by decide +kernel
theorem dz153_163 : decode (mC 153) 163 = .ok ((.getfield 9), 3) := by decide +kernel
theorem dz153_166 : decode (mC 153) 166 = .ok ((.iconst 0), 1) := by decide +kernel
theorem dz153_167 : decode (mC 153) 167 = .ok (.iaload, 1) := by decide +kernel
theorem dz153_168 : decode (mC 153) 168 = .ok ((.if_icmp .ge 55), 3) := by decide +kernel
theorem dz153_171 : decode (mC 153) 171 = .ok ((.iload 5), 2) := by decide +kernel
theorem dz153_173 : decode (mC 153) 173 = .ok ((.ifCond .le 50), 3) := by decide +kernel
theorem dz153_176 : decode (mC 153) 176 = .ok ((.iload_n 2), 1) := by decide +kernel
theorem dz153_177 : decode (mC 153) 177 = .ok ((.iload 6), 2) := by decide +kernel
theorem dz153_179 : decode (mC 153) 179 = .ok ((.invokestatic 79), 3) := by decide +kernel
theorem dz153_182 : decode (mC 153) 182 = .ok ((.ifCond .eq 35), 3) := by decide +kernel
theorem dz153_185 : decode (mC 153) 185 = .ok ((.aload_n 0), 1) := by decide +kernel
theorem dz153_186 : decode (mC 153) 186 = .ok ((.iload_n 1), 1) := by decide +kernel
theorem dz153_187 : decode (mC 153) 187 = .ok ((.iload 6), 2) := by decide +kernel
theorem dz153_189 : decode (mC 153) 189 = .ok ((.invokevirtual 101), 3) := by decide +kernel
theorem dz153_192 : decode (mC 153) 192 = .ok ((.ifCond .ne 6), 3) := by decide +kernel
theorem dz153_195 : decode (mC 153) 195 = .ok ((.goto 22), 3) := by decide +kernel
theorem dz153_198 : decode (mC 153) 198 = .ok ((.aload_n 0), 1) := by decide +kernel
theorem dz153_199 : decode (mC 153) 199 = .ok ((.getfield 21), 3) := by decide +kernel
theorem dz153_202 : decode (mC 153) 202 = .ok ((.bipush 8), 2) := by decide +kernel
theorem dz153_204 : decode (mC 153) 204 = .ok ((.iload_n 1), 1) := by decide +kernel
theorem dz153_205 : decode (mC 153) 205 = .ok (.imul, 1) := by decide +kernel
theorem dz153_206 : decode (mC 153) 206 = .ok ((.iload 6), 2) := by decide +kernel
theorem dz153_208 : decode (mC 153) 208 = .ok (.iadd, 1) := by decide +kernel
theorem dz153_209 : decode (mC 153) 209 = .ok (.dup2, 1) := by decide +kernel
theorem dz153_210 : decode (mC 153) 210 = .ok (.iaload, 1) := by decide +kernel
theorem dz153_211 : decode (mC 153) 211 = .ok ((.iconst 1), 1) := by decide +kernel
theorem dz153_212 : decode (mC 153) 212 = .ok (.iadd, 1) := by decide +kernel
theorem dz153_213 : decode (mC 153) 213 = .ok (.iastore, 1) := by decide +kernel
theorem dz153_214 : decode (mC 153) 214 = .ok ((.iinc 5 (-1)), 3) := by decide +kernel
theorem dz153_217 : decode (mC 153) 217 = .ok ((.iinc 6 1), 3) := by decide +kernel
theorem dz153_220 : decode (mC 153) 220 = .ok ((.goto (-60)), 3) := by decide +kernel
theorem dz153_223 : decode (mC 153) 223 = .ok ((.iconst 0), 1) := by decide +kernel
theorem dz153_224 : decode (mC 153) 224 = .ok ((.istore 6), 2) := by decide +kernel
theorem dz153_226 : decode (mC 153) 226 = .ok ((.iload 6), 2) := by decide +kernel
theorem dz153_228 : decode (mC 153) 228 = .ok ((.aload_n 0), 1) := by decide +kernel
theorem dz153_229 : decode (mC 153) 229 = .ok ((.getfield 9), 3) := by decide +kernel
theorem dz153_232 : decode (mC 153) 232 = .ok ((.iconst 0), 1) := by decide +kernel
theorem dz153_233 : decode (mC 153) 233 = .ok (.iaload, 1) := by decide +kernel
theorem dz153_234 : decode (mC 153) 234 = .ok ((.if_icmp .ge 31), 3) := by decide +kernel
theorem dz153_237 : decode (mC 153) 237 = .ok ((.aload_n 0), 1) := by decide +kernel
theorem dz153_238 : decode (mC 153) 238 = .ok ((.getfield 18), 3) := by decide +kernel
theorem dz153_241 : decode (mC 153) 241 = .ok ((.iload 6), 2) := by decide +kernel
theorem dz153_243 : decode (mC 153) 243 = .ok (.dup2, 1) := by decide +kernel
theorem dz153_244 : decode (mC 153) 244 = .ok (.iaload, 1) := by decide +kernel
theorem dz153_245 : decode (mC 153) 245 = .ok ((.aload_n 0), 1) := by decide +kernel
theorem dz153_246 : decode (mC 153) 246 = .ok ((.getfield 21), 3) := by decide +kernel
theorem dz153_249 : decode (mC 153) 249 = .ok ((.bipush 8), 2) := by decide +kernel
theorem dz153_251 : decode (mC 153) 251 = .ok ((.iload_n 1), 1) := by decide +kernel
theorem dz153_252 : decode (mC 153) 252 = .ok (.imul, 1) := by decide +kernel
theorem dz153_253 : decode (mC 153) 253 = .ok ((.iload 6), 2) := by decide +kernel
theorem dz153_255 : decode (mC 153) 255 = .ok (.iadd, 1) := by decide +kernel
theorem dz153_256 : decode (mC 153) 256 = .ok (.iaload, 1) := by decide +kernel
theorem dz153_257 : decode (mC 153) 257 = .ok (.iadd, 1) := by decide +kernel
theorem dz153_258 : decode (mC 153) 258 = .ok (.iastore, 1) := by decide +kernel
theorem dz153_259 : decode (mC 153) 259 = .ok ((.iinc 6 1), 3) := by decide +kernel
theorem dz153_262 : decode (mC 153) 262 = .ok ((.goto (-36)), 3) := by decide +kernel
theorem dz153_265 : decode (mC 153) 265 = .ok (.return_, 1) := by decide +kernel
def Wh : WrT := [(216, 0, 7), (217, 0, 63)]
def FlS (h : PH) : Prop := (∀ k : Int, 0 ≤ k → k < 8 → h (216 + 4096) k = 1) ∧ (∀ k : Int, 0 ≤ k → k < 64 → h (217 + 4096) k = 1)
theorem FlS.fr {W : WrT} {h h' : PH} (hF : FR W h h') (hf : FlS h) : FlS h' := ⟨fun k h0 h1 => hF.2 216 k (by decide) (hf.1 k h0 h1), fun k h0 h1 => hF.2 217 k (by decide) (hf.2 k h0 h1)⟩
theorem scWh : scW Wh = true := by decide +kernel
theorem al216 : alen 216 = 8 := by decide +kernel
theorem pw6 : (PW Wh).2 216 0 7 none = true := by decide +kernel
theorem pw7 : (PW Wh).2 217 0 63 none = true := by decide +kernel
theorem wr6 {h0 h : PH} (hI : IW Wh h0 h) {j : Nat} (hj : j < 8) (v : Int) : IW Wh h0 (fl1 (u2 h 216 (j : Int) v) 216 (j : Int)) := (tOK_PW Wh h0).2.1 h 216 0 7 j v none hI pw6 (fun x hx => by cases hx) (Nat.zero_le _) (by omega) (by decide)
theorem wr7 {h0 h : PH} (hI : IW Wh h0 h) {j : Nat} (hj : j < 64) (v : Int) : IW Wh h0 (fl1 (u2 h 217 (j : Int) v) 217 (j : Int)) := (tOK_PW Wh h0).2.1 h 217 0 63 j v none hI pw7 (fun x hx => by cases hx) (Nat.zero_le _) (by omega) (by decide)
theorem rd_a {h : PH} {a i v k : Int} (ha : 0 ≤ a) (hb : a < 4096) : fl1 (u2 h a i v) a i a k = if k = i then v else h a k := by
  rw [fl_val ha hb]
  unfold u2
  rw [if_pos rfl]
/-- parts within 0 .. P, loads within 0 .. L -/
def PB (h : PH) (P : Int) : Prop := ∀ k : Int, 0 ≤ k → k < 64 → 0 ≤ h 217 k ∧ h 217 k ≤ P
def LdB (h : PH) (L : Int) : Prop := ∀ k : Int, 0 ≤ k → k < 8 → 0 ≤ h 216 k ∧ h 216 k ≤ L
theorem hd4 {z : Int → Int} {h0 : PH} {g : PG} (hg : gInv g) (hf : FlS h0) {n : Nat} (hn : n ≤ 7) (hc : h0 214 0 = (n : Int)) {c : Nat} (hc7 : c < 7) {P L set all w left : Int} (hP : 0 ≤ P) :
    ∀ (k a : Nat) (h : PH), a + k = n → IW Wh h0 h → PB h P → (∀ i : Int, 0 ≤ i → i < 8 → 0 ≤ h 216 i ∧ h 216 i ≤ L + P ∧ ((a : Int) ≤ i → h 216 i ≤ L)) →
    ∃ h', XCD z 153 (226, [some (vR 213), some (vI (c : Int)), some (vI set), some (vI all), some (vI w), some (vI left), some (vI (a : Int))], [], h, g) = some (none, h', g) ∧ IW Wh h0 h' ∧ PB h' P ∧ LdB h' (L + P) := by
  intro k
  induction k with
  | zero =>
    intro a h hk hI hB hL
    have e0 : h 214 0 = (n : Int) := (ns214 (hI.2.ns scWh) 0).trans hc
    have hge : ccmp .ge (a : Int) (h 214 0) = true := ccge_t (by rw [e0, w32n (by omega), w32n (by omega)]; omega)
    refine ⟨h, ?_, hI, hB, fun i i0 i1 => ⟨(hL i i0 i1).1, (hL i i0 i1).2.1⟩⟩
    refine (stD (pc := 226) dz153_226 rfl).trans ?_
    refine (stD (pc := 228) dz153_228 rfl).trans ?_
    refine (stD (pc := 229) dz153_229 (gfg hm153 hg)).trans ?_
    refine (stD (pc := 232) dz153_232 rfl).trans ?_
    refine (stD (pc := 233) dz153_233 (ialC hg)).trans ?_
    refine (stD (pc := 234) dz153_234 (jcD true (by decide) (hge))).trans ?_
    exact rtD (pc := 265) dz153_265 (rtV (by decide +kernel))
  | succ k ih =>
    intro a h hk hI hB hL
    have e0 : h 214 0 = (n : Int) := (ns214 (hI.2.ns scWh) 0).trans hc
    have hlt : ccmp .ge (a : Int) (h 214 0) = false := ccge_f (by rw [e0, w32n (by omega), w32n (by omega)]; omega)
    have hfl := FlS.fr hI.2 hf
    have hp := hB (8 * (c : Int) + (a : Int)) (by omega) (by omega)
    have hl := hL (a : Int) (by omega) (by omega)
    obtain ⟨h', k1, k2⟩ := ih (a + 1) (fl1 (u2 h 216 (a : Int) (h 216 (a : Int) + h 217 (8 * (c : Int) + (a : Int)))) 216 (a : Int)) (by omega) (wr6 hI (by omega) _) (fun i i0 i1 => by rw [rd_o (by decide) (by decide) (by decide)]; exact hB i i0 i1) (fun i i0 i1 => by
      rw [rd_a (by decide) (by decide)]
      have q := hL i i0 i1
      have q9 := hl.2.2 (by omega)
      by_cases hia : i = (a : Int)
      · rw [if_pos hia]
        exact ⟨by omega, by omega, fun hh => by omega⟩
      · rw [if_neg hia]
        exact ⟨q.1, q.2.1, fun hh => q.2.2 (by omega)⟩)
    refine ⟨h', ?_, k2⟩
    refine Eq.trans ?_ k1
    refine (stD (pc := 226) dz153_226 rfl).trans ?_
    refine (stD (pc := 228) dz153_228 rfl).trans ?_
    refine (stD (pc := 229) dz153_229 (gfg hm153 hg)).trans ?_
    refine (stD (pc := 232) dz153_232 rfl).trans ?_
    refine (stD (pc := 233) dz153_233 (ialC hg)).trans ?_
    refine (stD (pc := 234) dz153_234 (jcD false (by decide) (hlt))).trans ?_
    refine (stD (pc := 237) dz153_237 rfl).trans ?_
    refine (stD (pc := 238) dz153_238 (gfloads hm153 hg)).trans ?_
    refine (stD (pc := 241) dz153_241 rfl).trans ?_
    refine (stD (pc := 243) dz153_243 rfl).trans ?_
    refine (stD (pc := 244) dz153_244 (ialR hg (by decide +kernel) (w32n (by omega)) (by omega) (by rw [al216]; omega) (rd_fl (hfl.1 _ (by omega) (by omega))))).trans ?_
    refine (stD (pc := 245) dz153_245 rfl).trans ?_
    refine (stD (pc := 246) dz153_246 (gfparts hm153 hg)).trans ?_
    refine (stD (pc := 249) dz153_249 rfl).trans ?_
    refine (stD (pc := 251) dz153_251 rfl).trans ?_
    refine (stD (pc := 252) dz153_252 rfl).trans ?_
    refine (stD (pc := 253) dz153_253 rfl).trans ?_
    refine (stD (pc := 255) dz153_255 rfl).trans ?_
    refine (stD (pc := 256) dz153_256 (ialR hg (by decide +kernel) (ix8 hc7 (by omega)) (by omega) (by rw [al217]; omega) (rd_fl (hfl.2 _ (by omega) (by omega))))).trans ?_
    refine (stD (pc := 257) dz153_257 rfl).trans ?_
    refine (stD (pc := 258) dz153_258 (iasR hg (by decide +kernel) (w32n (by omega)) (by omega) (by rw [al216]; omega))).trans ?_
    refine (stD (pc := 259) dz153_259 rfl).trans ?_
    refine (stD (pc := 262) dz153_262 rfl).trans ?_
    rfl
theorem subW0 {W : WrT} : subW [] W = true := rfl
theorem hd3 {z : Int → Int} (hz : zOK z) {h0 : PH} {g : PG} (hg : gInv g) (hf : FlS h0) {n : Nat} (hn : n ≤ 7) (hc : h0 214 0 = (n : Int)) {c s : Nat} (hc7 : c < 7) (hs : s < 128) {P all w : Int} :
    ∀ (k a : Nat) (left : Int) (h : PH), a + k = n → IW Wh h0 h → (∀ i : Int, 0 ≤ i → i < 64 → 0 ≤ h 217 i ∧ h 217 i ≤ P + 1 ∧ (8 * (c : Int) + (a : Int) ≤ i → h 217 i ≤ P)) →
    ∃ (left' : Int) (h' : PH), XCD z 153 (160, [some (vR 213), some (vI (c : Int)), some (vI (s : Int)), some (vI all), some (vI w), some (vI left), some (vI (a : Int))], [], h, g) = XCD z 153 (226, [some (vR 213), some (vI (c : Int)), some (vI (s : Int)), some (vI all), some (vI w), some (vI left'), some (vI 0)], [], h', g) ∧ IW Wh h0 h' ∧ PB h' (P + 1) ∧ (∀ i, h' 216 i = h 216 i) := by
  intro k
  induction k with
  | zero =>
    intro a left h hk hI hB
    have e0 : h 214 0 = (n : Int) := (ns214 (hI.2.ns scWh) 0).trans hc
    have hge : ccmp .ge (a : Int) (h 214 0) = true := ccge_t (by rw [e0, w32n (by omega), w32n (by omega)]; omega)
    refine ⟨left, h, ?_, hI, fun i i0 i1 => ⟨(hB i i0 i1).1, (hB i i0 i1).2.1⟩, fun _ => rfl⟩
    refine (stD (pc := 160) dz153_160 rfl).trans ?_
    refine (stD (pc := 162) dz153_162 rfl).trans ?_
    refine (stD (pc := 163) dz153_163 (gfg hm153 hg)).trans ?_
    refine (stD (pc := 166) dz153_166 rfl).trans ?_
    refine (stD (pc := 167) dz153_167 (ialC hg)).trans ?_
    refine (stD (pc := 168) dz153_168 (jcD true (by decide) (hge))).trans ?_
    refine (stD (pc := 223) dz153_223 rfl).trans ?_
    refine (stD (pc := 224) dz153_224 rfl).trans ?_
    rfl
  | succ k ih =>
    intro a left h hk hI hB
    have e0 : h 214 0 = (n : Int) := (ns214 (hI.2.ns scWh) 0).trans hc
    have hlt : ccmp .ge (a : Int) (h 214 0) = false := ccge_f (by rw [e0, w32n (by omega), w32n (by omega)]; omega)
    have hfl := FlS.fr hI.2 hf
    have hB' : ∀ i : Int, 0 ≤ i → i < 64 → 0 ≤ h 217 i ∧ h 217 i ≤ P + 1 ∧ (8 * (c : Int) + ((a + 1 : Nat) : Int) ≤ i → h 217 i ≤ P) := fun i i0 i1 => ⟨(hB i i0 i1).1, (hB i i0 i1).2.1, fun q => (hB i i0 i1).2.2 (by omega)⟩
    have hd := hasD (z := z) hs (by omega : a < 8) (h := h) (g := g)
    cases hq : ccmp .le left 0 with
    | true =>
      refine ⟨left, h, ?_, hI, fun i i0 i1 => ⟨(hB i i0 i1).1, (hB i i0 i1).2.1⟩, fun _ => rfl⟩
      refine (stD (pc := 160) dz153_160 rfl).trans ?_
      refine (stD (pc := 162) dz153_162 rfl).trans ?_
      refine (stD (pc := 163) dz153_163 (gfg hm153 hg)).trans ?_
      refine (stD (pc := 166) dz153_166 rfl).trans ?_
      refine (stD (pc := 167) dz153_167 (ialC hg)).trans ?_
      refine (stD (pc := 168) dz153_168 (jcD false (by decide) (hlt))).trans ?_
      refine (stD (pc := 171) dz153_171 rfl).trans ?_
      refine (stD (pc := 173) dz153_173 (j0D true (by decide) (hq))).trans ?_
      refine (stD (pc := 223) dz153_223 rfl).trans ?_
      refine (stD (pc := 224) dz153_224 rfl).trans ?_
      rfl
    | false =>
      cases hh : hasB s a with
      | false =>
        rw [hh] at hd
        obtain ⟨l', h', k1, k2, k3, k4⟩ := ih (a + 1) left h (by omega) hI hB'
        refine ⟨l', h', ?_, k2, k3, k4⟩
        refine Eq.trans ?_ k1
        refine (stD (pc := 160) dz153_160 rfl).trans ?_
        refine (stD (pc := 162) dz153_162 rfl).trans ?_
        refine (stD (pc := 163) dz153_163 (gfg hm153 hg)).trans ?_
        refine (stD (pc := 166) dz153_166 rfl).trans ?_
        refine (stD (pc := 167) dz153_167 (ialC hg)).trans ?_
        refine (stD (pc := 168) dz153_168 (jcD false (by decide) (hlt))).trans ?_
        refine (stD (pc := 171) dz153_171 rfl).trans ?_
        refine (stD (pc := 173) dz153_173 (j0D false (by decide) (hq))).trans ?_
        refine (stD (pc := 176) dz153_176 rfl).trans ?_
        refine (stD (pc := 177) dz153_177 rfl).trans ?_
        refine (clD (pc := 179) dz153_179 (csD (by decide +kernel : okC 153 79 1 129 2 40 = true) (by decide +kernel) rfl rfl rfl) (hd)).trans ?_
        refine (stD (pc := 182) dz153_182 (j0D true (by decide) (by unfold ccmp; rfl))).trans ?_
        refine (stD (pc := 217) dz153_217 rfl).trans ?_
        refine (stD (pc := 220) dz153_220 rfl).trans ?_
        rfl
      | true =>
        rw [hh] at hd
        obtain ⟨v, h1, c1, c2, c3, c4, c5, c6⟩ := ctD hz hI.1 hg (by omega : c < 8) (by omega : a < 8)
        have hI1 : IW Wh h0 h1 := IW_tr hI c4 c5 subW0
        have e17 : ∀ i, h1 217 i = h 217 i := fun i => FR0 c5 (by decide) (by decide)
        have e16 : ∀ i, h1 216 i = h 216 i := fun i => FR0 c5 (by decide) (by decide)
        by_cases hv : v = 0
        · obtain ⟨l', h', k1, k2, k3, k4⟩ := ih (a + 1) left h1 (by omega) hI1 (fun i i0 i1 => by rw [e17]; exact hB' i i0 i1)
          refine ⟨l', h', ?_, k2, k3, fun i => (k4 i).trans (e16 i)⟩
          refine Eq.trans ?_ k1
          refine (stD (pc := 160) dz153_160 rfl).trans ?_
          refine (stD (pc := 162) dz153_162 rfl).trans ?_
          refine (stD (pc := 163) dz153_163 (gfg hm153 hg)).trans ?_
          refine (stD (pc := 166) dz153_166 rfl).trans ?_
          refine (stD (pc := 167) dz153_167 (ialC hg)).trans ?_
          refine (stD (pc := 168) dz153_168 (jcD false (by decide) (hlt))).trans ?_
          refine (stD (pc := 171) dz153_171 rfl).trans ?_
          refine (stD (pc := 173) dz153_173 (j0D false (by decide) (hq))).trans ?_
          refine (stD (pc := 176) dz153_176 rfl).trans ?_
          refine (stD (pc := 177) dz153_177 rfl).trans ?_
          refine (clD (pc := 179) dz153_179 (csD (by decide +kernel : okC 153 79 1 129 2 40 = true) (by decide +kernel) rfl rfl rfl) (hd)).trans ?_
          refine (stD (pc := 182) dz153_182 (j0D false (by decide) (by unfold ccmp; decide +kernel))).trans ?_
          refine (stD (pc := 185) dz153_185 rfl).trans ?_
          refine (stD (pc := 186) dz153_186 rfl).trans ?_
          refine (stD (pc := 187) dz153_187 rfl).trans ?_
          refine (clD (pc := 189) dz153_189 (cvD (by decide +kernel : okC 153 101 0 148 3 56 = true) hm153 hg rfl rfl rfl rfl) (c1)).trans ?_
          refine (stD (pc := 192) dz153_192 (j0D false (by decide) (by rw [hv]; decide +kernel))).trans ?_
          refine (stD (pc := 195) dz153_195 rfl).trans ?_
          refine (stD (pc := 217) dz153_217 rfl).trans ?_
          refine (stD (pc := 220) dz153_220 rfl).trans ?_
          rfl
        · have hfl1 := FlS.fr hI1.2 hf
          have hx : w32 (8 * (c : Int) + (a : Int)) = ((8 * c + a : Nat) : Int) := by rw [ix8 hc7 (by omega)]; omega
          have hp := hB ((8 * c + a : Nat) : Int) (by omega) (by omega)
          have hp2 := hp.2.2 (by omega)
          obtain ⟨l', h', k1, k2, k3, k4⟩ := ih (a + 1) (left + -1) (fl1 (u2 h1 217 ((8 * c + a : Nat) : Int) (h1 217 ((8 * c + a : Nat) : Int) + 1)) 217 ((8 * c + a : Nat) : Int)) (by omega) (wr7 hI1 (by omega) _) (fun i i0 i1 => by
            rw [rd_a (by decide) (by decide), e17, e17]
            by_cases hia : i = ((8 * c + a : Nat) : Int)
            · rw [if_pos hia]
              exact ⟨by omega, by omega, fun hh => by omega⟩
            · rw [if_neg hia]
              exact hB' i i0 i1)
          refine ⟨l', h', ?_, k2, k3, fun i => (k4 i).trans ((rd_o (by decide) (by decide) (by decide)).trans (e16 i))⟩
          refine Eq.trans ?_ k1
          refine (stD (pc := 160) dz153_160 rfl).trans ?_
          refine (stD (pc := 162) dz153_162 rfl).trans ?_
          refine (stD (pc := 163) dz153_163 (gfg hm153 hg)).trans ?_
          refine (stD (pc := 166) dz153_166 rfl).trans ?_
          refine (stD (pc := 167) dz153_167 (ialC hg)).trans ?_
          refine (stD (pc := 168) dz153_168 (jcD false (by decide) (hlt))).trans ?_
          refine (stD (pc := 171) dz153_171 rfl).trans ?_
          refine (stD (pc := 173) dz153_173 (j0D false (by decide) (hq))).trans ?_
          refine (stD (pc := 176) dz153_176 rfl).trans ?_
          refine (stD (pc := 177) dz153_177 rfl).trans ?_
          refine (clD (pc := 179) dz153_179 (csD (by decide +kernel : okC 153 79 1 129 2 40 = true) (by decide +kernel) rfl rfl rfl) (hd)).trans ?_
          refine (stD (pc := 182) dz153_182 (j0D false (by decide) (by unfold ccmp; decide +kernel))).trans ?_
          refine (stD (pc := 185) dz153_185 rfl).trans ?_
          refine (stD (pc := 186) dz153_186 rfl).trans ?_
          refine (stD (pc := 187) dz153_187 rfl).trans ?_
          refine (clD (pc := 189) dz153_189 (cvD (by decide +kernel : okC 153 101 0 148 3 56 = true) hm153 hg rfl rfl rfl rfl) (c1)).trans ?_
          refine (stD (pc := 192) dz153_192 (j0D true (by decide) (ccne_t (by rw [w320, e_small (by omega) (by omega)]; exact hv)))).trans ?_
          refine (stD (pc := 198) dz153_198 rfl).trans ?_
          refine (stD (pc := 199) dz153_199 (gfparts hm153 hg)).trans ?_
          refine (stD (pc := 202) dz153_202 rfl).trans ?_
          refine (stD (pc := 204) dz153_204 rfl).trans ?_
          refine (stD (pc := 205) dz153_205 rfl).trans ?_
          refine (stD (pc := 206) dz153_206 rfl).trans ?_
          refine (stD (pc := 208) dz153_208 rfl).trans ?_
          refine (stD (pc := 209) dz153_209 rfl).trans ?_
          refine (stD (pc := 210) dz153_210 (ialR hg (by decide +kernel) hx (by omega) (by rw [al217]; omega) (rd_fl (hfl1.2 _ (by omega) (by omega))))).trans ?_
          refine (stD (pc := 211) dz153_211 rfl).trans ?_
          refine (stD (pc := 212) dz153_212 rfl).trans ?_
          refine (stD (pc := 213) dz153_213 (iasR hg (by decide +kernel) hx (by omega) (by rw [al217]; omega))).trans ?_
          refine (stD (pc := 214) dz153_214 rfl).trans ?_
          refine (stD (pc := 217) dz153_217 rfl).trans ?_
          refine (stD (pc := 220) dz153_220 rfl).trans ?_
          rfl
