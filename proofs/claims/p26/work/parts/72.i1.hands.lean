/-! ===== handsDown: what it hands on is at most what it bears ===== -/
theorem hm153 : mO 153 = 8 := by decide +kernel
theorem dz153_5 : decode (mC 153) 5 = .ok ((.iload 4), 2) := by decide +kernel
theorem dz153_7 : decode (mC 153) 7 = .ok ((.aload_n 0), 1) := by decide +kernel
theorem dz153_8 : decode (mC 153) 8 = .ok ((.getfield 9), 3) := by decide +kernel
theorem dz153_11 : decode (mC 153) 11 = .ok ((.iconst 0), 1) := by decide +kernel
theorem dz153_12 : decode (mC 153) 12 = .ok (.iaload, 1) := by decide +kernel
theorem dz153_13 : decode (mC 153) 13 = .ok ((.if_icmp .ge 32), 3) := by decide +kernel
theorem dz153_16 : decode (mC 153) 16 = .ok ((.iload_n 3), 1) := by decide +kernel
theorem dz153_17 : decode (mC 153) 17 = .ok ((.iload_n 2), 1) := by decide +kernel
theorem dz153_18 : decode (mC 153) 18 = .ok ((.iload 4), 2) := by decide +kernel
theorem dz153_20 : decode (mC 153) 20 = .ok ((.invokestatic 79), 3) := by decide +kernel
theorem dz153_23 : decode (mC 153) 23 = .ok ((.ifCond .eq 13), 3) := by decide +kernel
theorem dz153_26 : decode (mC 153) 26 = .ok ((.aload_n 0), 1) := by decide +kernel
theorem dz153_27 : decode (mC 153) 27 = .ok ((.iload_n 1), 1) := by decide +kernel
theorem dz153_28 : decode (mC 153) 28 = .ok ((.iload 4), 2) := by decide +kernel
theorem dz153_30 : decode (mC 153) 30 = .ok ((.invokevirtual 101), 3) := by decide +kernel
theorem dz153_33 : decode (mC 153) 33 = .ok ((.goto 4), 3) := by decide +kernel
theorem dz153_36 : decode (mC 153) 36 = .ok ((.iconst 0), 1) := by decide +kernel
theorem dz153_37 : decode (mC 153) 37 = .ok (.iadd, 1) := by decide +kernel
theorem dz153_38 : decode (mC 153) 38 = .ok ((.istore_n 3), 1) := by decide +kernel
theorem dz153_39 : decode (mC 153) 39 = .ok ((.iinc 4 1), 3) := by decide +kernel
theorem dz153_42 : decode (mC 153) 42 = .ok ((.goto (-37)), 3) := by decide +kernel
theorem dz153_87 : decode (mC 153) 87 = .ok ((.iload 6), 2) := by decide +kernel
theorem dz153_89 : decode (mC 153) 89 = .ok ((.aload_n 0), 1) := by decide +kernel
theorem dz153_90 : decode (mC 153) 90 = .ok ((.getfield 9), 3) := by decide +kernel
theorem dz153_93 : decode (mC 153) 93 = .ok ((.iconst 0), 1) := by decide +kernel
theorem dz153_94 : decode (mC 153) 94 = .ok (.iaload, 1) := by decide +kernel
theorem dz153_95 : decode (mC 153) 95 = .ok ((.if_icmp .ge 62), 3) := by decide +kernel
theorem dz153_98 : decode (mC 153) 98 = .ok ((.iload_n 2), 1) := by decide +kernel
theorem dz153_99 : decode (mC 153) 99 = .ok ((.iload 6), 2) := by decide +kernel
theorem dz153_101 : decode (mC 153) 101 = .ok ((.invokestatic 79), 3) := by decide +kernel
theorem dz153_104 : decode (mC 153) 104 = .ok ((.ifCond .ne 6), 3) := by decide +kernel
theorem dz153_107 : decode (mC 153) 107 = .ok ((.goto 44), 3) := by decide +kernel
theorem dz153_110 : decode (mC 153) 110 = .ok ((.aload_n 0), 1) := by decide +kernel
theorem dz153_111 : decode (mC 153) 111 = .ok ((.getfield 21), 3) := by decide +kernel
theorem dz153_114 : decode (mC 153) 114 = .ok ((.bipush 8), 2) := by decide +kernel
theorem dz153_116 : decode (mC 153) 116 = .ok ((.iload_n 1), 1) := by decide +kernel
theorem dz153_117 : decode (mC 153) 117 = .ok (.imul, 1) := by decide +kernel
theorem dz153_118 : decode (mC 153) 118 = .ok ((.iload 6), 2) := by decide +kernel
theorem dz153_120 : decode (mC 153) 120 = .ok (.iadd, 1) := by decide +kernel
theorem dz153_121 : decode (mC 153) 121 = .ok ((.iload 4), 2) := by decide +kernel
theorem dz153_123 : decode (mC 153) 123 = .ok ((.aload_n 0), 1) := by decide +kernel
theorem dz153_124 : decode (mC 153) 124 = .ok ((.iload_n 1), 1) := by decide +kernel
theorem dz153_125 : decode (mC 153) 125 = .ok ((.iload 6), 2) := by decide +kernel
theorem dz153_127 : decode (mC 153) 127 = .ok ((.invokevirtual 101), 3) := by decide +kernel
theorem dz153_130 : decode (mC 153) 130 = .ok (.imul, 1) := by decide +kernel
theorem dz153_131 : decode (mC 153) 131 = .ok ((.iload_n 3), 1) := by decide +kernel
theorem dz153_132 : decode (mC 153) 132 = .ok (.idiv, 1) := by decide +kernel
theorem dz153_133 : decode (mC 153) 133 = .ok (.iastore, 1) := by decide +kernel
theorem dz153_134 : decode (mC 153) 134 = .ok ((.iload 5), 2) := by decide +kernel
theorem dz153_136 : decode (mC 153) 136 = .ok ((.aload_n 0), 1) := by decide +kernel
theorem dz153_137 : decode (mC 153) 137 = .ok ((.getfield 21), 3) := by decide +kernel
theorem dz153_140 : decode (mC 153) 140 = .ok ((.bipush 8), 2) := by decide +kernel
theorem dz153_142 : decode (mC 153) 142 = .ok ((.iload_n 1), 1) := by decide +kernel
theorem dz153_143 : decode (mC 153) 143 = .ok (.imul, 1) := by decide +kernel
theorem dz153_144 : decode (mC 153) 144 = .ok ((.iload 6), 2) := by decide +kernel
theorem dz153_146 : decode (mC 153) 146 = .ok (.iadd, 1) := by decide +kernel
theorem dz153_147 : decode (mC 153) 147 = .ok (.iaload, 1) := by decide +kernel
theorem dz153_148 : decode (mC 153) 148 = .ok (.isub, 1) := by decide +kernel
theorem dz153_149 : decode (mC 153) 149 = .ok ((.istore 5), 2) := by decide +kernel
theorem dz153_151 : decode (mC 153) 151 = .ok ((.iinc 6 1), 3) := by decide +kernel
theorem dz153_154 : decode (mC 153) 154 = .ok ((.goto (-67)), 3) := by decide +kernel
theorem dz153_157 : decode (mC 153) 157 = .ok ((.iconst 0), 1) := by decide +kernel
theorem dz153_158 : decode (mC 153) 158 = .ok ((.istore 6), 2) := by decide +kernel
theorem dz153_160 : decode (mC 153) 160 = .ok ((.iload 6), 2) := by decide +kernel
theorem dz153_162 : decode (mC 153) 162 = .ok ((.aload_n 0), 1) := by decide +kernel
theorem dz153_163 : decode (mC 153) 163 = .ok ((.getfield 9), 3) := by decide +kernel
theorem dz153_166 : decode (mC 153) 166 = .ok ((.iconst 0), 1) := by decide +kernel
theorem dz153_167 : decode (mC 153) 167 = .ok (.iaload, 1) := by decide +kernel
theorem dz153_168 : decode (mC 153) 168 = .ok ((.if_icmp .ge 55), 3) := by decide +kernel
theorem dz153_171 : decode (mC 153) 171 = .ok ((.iload 5), 2) := by decide +kernel
theorem dz153_173 : decode (mC 153) 173 = .ok ((.ifCond .le 50), 3) := by decide +kernel
theorem dz153_176 : decode (mC 153) 176 = .ok ((.iload_n 2), 1) := by decide +kernel
theorem dz153_177 : decode (mC 153) 177 = .ok ((.iload 6), 2) := by decide +kernel
theorem dz153_179 : decode (mC 153) 179 = .ok ((.invokestatic 79), 3) := by decide +kernel
theorem dz153_182 : decode (mC 153) 182 = .ok ((.ifCond .eq 35), 3) := by decide +kernel
theorem dz153_185 : decode (mC 153) 185 = .ok ((.aload_n 0), 1) := by decide +kernel
theorem dz153_186 : decode (mC 153) 186 = .ok ((.iload_n 1), 1) := by decide +kernel
theorem dz153_187 : decode (mC 153) 187 = .ok ((.iload 6), 2) := by decide +kernel
theorem dz153_189 : decode (mC 153) 189 = .ok ((.invokevirtual 101), 3) := by decide +kernel
theorem dz153_192 : decode (mC 153) 192 = .ok ((.ifCond .ne 6), 3) := by decide +kernel
theorem dz153_195 : decode (mC 153) 195 = .ok ((.goto 22), 3) := by decide +kernel
theorem dz153_198 : decode (mC 153) 198 = .ok ((.aload_n 0), 1) := by decide +kernel
theorem dz153_199 : decode (mC 153) 199 = .ok ((.getfield 21), 3) := by decide +kernel
theorem dz153_202 : decode (mC 153) 202 = .ok ((.bipush 8), 2) := by decide +kernel
theorem dz153_204 : decode (mC 153) 204 = .ok ((.iload_n 1), 1) := by decide +kernel
theorem dz153_205 : decode (mC 153) 205 = .ok (.imul, 1) := by decide +kernel
theorem dz153_206 : decode (mC 153) 206 = .ok ((.iload 6), 2) := by decide +kernel
theorem dz153_208 : decode (mC 153) 208 = .ok (.iadd, 1) := by decide +kernel
theorem dz153_209 : decode (mC 153) 209 = .ok (.dup2, 1) := by decide +kernel
theorem dz153_210 : decode (mC 153) 210 = .ok (.iaload, 1) := by decide +kernel
theorem dz153_211 : decode (mC 153) 211 = .ok ((.iconst 1), 1) := by decide +kernel
theorem dz153_212 : decode (mC 153) 212 = .ok (.iadd, 1) := by decide +kernel
theorem dz153_213 : decode (mC 153) 213 = .ok (.iastore, 1) := by decide +kernel
theorem dz153_214 : decode (mC 153) 214 = .ok ((.iinc 5 (-1)), 3) := by decide +kernel
theorem dz153_217 : decode (mC 153) 217 = .ok ((.iinc 6 1), 3) := by decide +kernel
theorem dz153_220 : decode (mC 153) 220 = .ok ((.goto (-60)), 3) := by decide +kernel
theorem dz153_223 : decode (mC 153) 223 = .ok ((.iconst 0), 1) := by decide +kernel
theorem dz153_224 : decode (mC 153) 224 = .ok ((.istore 6), 2) := by decide +kernel
theorem dz153_226 : decode (mC 153) 226 = .ok ((.iload 6), 2) := by decide +kernel
theorem dz153_228 : decode (mC 153) 228 = .ok ((.aload_n 0), 1) := by decide +kernel
theorem dz153_229 : decode (mC 153) 229 = .ok ((.getfield 9), 3) := by decide +kernel
theorem dz153_232 : decode (mC 153) 232 = .ok ((.iconst 0), 1) := by decide +kernel
theorem dz153_233 : decode (mC 153) 233 = .ok (.iaload, 1) := by decide +kernel
theorem dz153_234 : decode (mC 153) 234 = .ok ((.if_icmp .ge 31), 3) := by decide +kernel
theorem dz153_237 : decode (mC 153) 237 = .ok ((.aload_n 0), 1) := by decide +kernel
theorem dz153_238 : decode (mC 153) 238 = .ok ((.getfield 18), 3) := by decide +kernel
theorem dz153_241 : decode (mC 153) 241 = .ok ((.iload 6), 2) := by decide +kernel
theorem dz153_243 : decode (mC 153) 243 = .ok (.dup2, 1) := by decide +kernel
theorem dz153_244 : decode (mC 153) 244 = .ok (.iaload, 1) := by decide +kernel
theorem dz153_245 : decode (mC 153) 245 = .ok ((.aload_n 0), 1) := by decide +kernel
theorem dz153_246 : decode (mC 153) 246 = .ok ((.getfield 21), 3) := by decide +kernel
theorem dz153_249 : decode (mC 153) 249 = .ok ((.bipush 8), 2) := by decide +kernel
theorem dz153_251 : decode (mC 153) 251 = .ok ((.iload_n 1), 1) := by decide +kernel
theorem dz153_252 : decode (mC 153) 252 = .ok (.imul, 1) := by decide +kernel
theorem dz153_253 : decode (mC 153) 253 = .ok ((.iload 6), 2) := by decide +kernel
theorem dz153_255 : decode (mC 153) 255 = .ok (.iadd, 1) := by decide +kernel
theorem dz153_256 : decode (mC 153) 256 = .ok (.iaload, 1) := by decide +kernel
theorem dz153_257 : decode (mC 153) 257 = .ok (.iadd, 1) := by decide +kernel
theorem dz153_258 : decode (mC 153) 258 = .ok (.iastore, 1) := by decide +kernel
theorem dz153_259 : decode (mC 153) 259 = .ok ((.iinc 6 1), 3) := by decide +kernel
theorem dz153_262 : decode (mC 153) 262 = .ok ((.goto (-36)), 3) := by decide +kernel
theorem dz153_265 : decode (mC 153) 265 = .ok (.return_, 1) := by decide +kernel
def Wh : WrT := [(216, 0, 7), (217, 0, 63)]
def FlS (h : PH) : Prop := (∀ k : Int, 0 ≤ k → k < 8 → h (216 + 4096) k = 1) ∧ (∀ k : Int, 0 ≤ k → k < 64 → h (217 + 4096) k = 1)
theorem FlS.fr {W : WrT} {h h' : PH} (hF : FR W h h') (hf : FlS h) : FlS h' := ⟨fun k h0 h1 => hF.2 216 k (by decide) (hf.1 k h0 h1), fun k h0 h1 => hF.2 217 k (by decide) (hf.2 k h0 h1)⟩
theorem scWh : scW Wh = true := by decide +kernel
theorem al216 : alen 216 = 8 := by decide +kernel
theorem pw6 : (PW Wh).2 216 0 7 none = true := by decide +kernel
theorem pw7 : (PW Wh).2 217 0 63 none = true := by decide +kernel
theorem wr6 {h0 h : PH} (hI : IW Wh h0 h) {j : Nat} (hj : j < 8) (v : Int) : IW Wh h0 (fl1 (u2 h 216 (j : Int) v) 216 (j : Int)) := (tOK_PW Wh h0).2.1 h 216 0 7 j v none hI pw6 (fun x hx => by cases hx) (Nat.zero_le _) (by omega) (by decide)
theorem wr7 {h0 h : PH} (hI : IW Wh h0 h) {j : Nat} (hj : j < 64) (v : Int) : IW Wh h0 (fl1 (u2 h 217 (j : Int) v) 217 (j : Int)) := (tOK_PW Wh h0).2.1 h 217 0 63 j v none hI pw7 (fun x hx => by cases hx) (Nat.zero_le _) (by omega) (by decide)
theorem rd_a {h : PH} {a i v k : Int} (ha : 0 ≤ a) (hb : a < 4096) : fl1 (u2 h a i v) a i a k = if k = i then v else h a k := by
  rw [fl_val ha hb]
  unfold u2
  rw [if_pos rfl]
/-- parts within 0 .. P, loads within 0 .. L -/
def PB (h : PH) (P : Int) : Prop := ∀ k : Int, 0 ≤ k → k < 64 → 0 ≤ h 217 k ∧ h 217 k ≤ P
def LdB (h : PH) (L : Int) : Prop := ∀ k : Int, 0 ≤ k → k < 8 → 0 ≤ h 216 k ∧ h 216 k ≤ L
theorem hd4 {z : Int → Int} {h0 : PH} {g : PG} (hg : gInv g) (hf : FlS h0) {n : Nat} (hn : n ≤ 7) (hc : h0 214 0 = (n : Int)) {c : Nat} (hc7 : c < 7) {P L set all w left : Int} (hP : 0 ≤ P) :
    ∀ (k a : Nat) (h : PH), a + k = n → IW Wh h0 h → PB h P → (∀ i : Int, 0 ≤ i → i < 8 → 0 ≤ h 216 i ∧ h 216 i ≤ L + P ∧ ((a : Int) ≤ i → h 216 i ≤ L)) →
    ∃ h', XCD z 153 (226, [some (vR 213), some (vI (c : Int)), some (vI set), some (vI all), some (vI w), some (vI left), some (vI (a : Int))], [], h, g) = some (none, h', g) ∧ IW Wh h0 h' ∧ PB h' P ∧ LdB h' (L + P) := by
  intro k
  induction k with
  | zero =>
    intro a h hk hI hB hL
    have e0 : h 214 0 = (n : Int) := (ns214 (hI.2.ns scWh) 0).trans hc
    have hge : ccmp .ge (a : Int) (h 214 0) = true := ccge_t (by rw [e0, w32n (by omega), w32n (by omega)]; omega)
    refine ⟨h, ?_, hI, hB, fun i i0 i1 => ⟨(hL i i0 i1).1, (hL i i0 i1).2.1⟩⟩
    refine (stD (pc := 226) dz153_226 rfl).trans ?_
    refine (stD (pc := 228) dz153_228 rfl).trans ?_
    refine (stD (pc := 229) dz153_229 (gfg hm153 hg)).trans ?_
    refine (stD (pc := 232) dz153_232 rfl).trans ?_
    refine (stD (pc := 233) dz153_233 (ialC hg)).trans ?_
    refine (stD (pc := 234) dz153_234 (jcD true (by decide) (hge))).trans ?_
    exact rtD (pc := 265) dz153_265 (rtV (by decide +kernel))
  | succ k ih =>
    intro a h hk hI hB hL
    have e0 : h 214 0 = (n : Int) := (ns214 (hI.2.ns scWh) 0).trans hc
    have hlt : ccmp .ge (a : Int) (h 214 0) = false := ccge_f (by rw [e0, w32n (by omega), w32n (by omega)]; omega)
    have hfl := FlS.fr hI.2 hf
    have hp := hB (8 * (c : Int) + (a : Int)) (by omega) (by omega)
    have hl := hL (a : Int) (by omega) (by omega)
    obtain ⟨h', k1, k2⟩ := ih (a + 1) (fl1 (u2 h 216 (a : Int) (h 216 (a : Int) + h 217 (8 * (c : Int) + (a : Int)))) 216 (a : Int)) (by omega) (wr6 hI (by omega) _) (fun i i0 i1 => by rw [rd_o (by decide) (by decide) (by decide)]; exact hB i i0 i1) (fun i i0 i1 => by
      rw [rd_a (by decide) (by decide)]
      have q := hL i i0 i1
      have q9 := hl.2.2 (by omega)
      by_cases hia : i = (a : Int)
      · rw [if_pos hia]
        exact ⟨by omega, by omega, fun hh => by omega⟩
      · rw [if_neg hia]
        exact ⟨q.1, q.2.1, fun hh => q.2.2 (by omega)⟩)
    refine ⟨h', ?_, k2⟩
    refine Eq.trans ?_ k1
    refine (stD (pc := 226) dz153_226 rfl).trans ?_
    refine (stD (pc := 228) dz153_228 rfl).trans ?_
    refine (stD (pc := 229) dz153_229 (gfg hm153 hg)).trans ?_
    refine (stD (pc := 232) dz153_232 rfl).trans ?_
    refine (stD (pc := 233) dz153_233 (ialC hg)).trans ?_
    refine (stD (pc := 234) dz153_234 (jcD false (by decide) (hlt))).trans ?_
    refine (stD (pc := 237) dz153_237 rfl).trans ?_
    refine (stD (pc := 238) dz153_238 (gfloads hm153 hg)).trans ?_
    refine (stD (pc := 241) dz153_241 rfl).trans ?_
    refine (stD (pc := 243) dz153_243 rfl).trans ?_
    refine (stD (pc := 244) dz153_244 (ialR hg (by decide +kernel) (w32n (by omega)) (by omega) (by rw [al216]; omega) (rd_fl (hfl.1 _ (by omega) (by omega))))).trans ?_
    refine (stD (pc := 245) dz153_245 rfl).trans ?_
    refine (stD (pc := 246) dz153_246 (gfparts hm153 hg)).trans ?_
    refine (stD (pc := 249) dz153_249 rfl).trans ?_
    refine (stD (pc := 251) dz153_251 rfl).trans ?_
    refine (stD (pc := 252) dz153_252 rfl).trans ?_
    refine (stD (pc := 253) dz153_253 rfl).trans ?_
    refine (stD (pc := 255) dz153_255 rfl).trans ?_
    refine (stD (pc := 256) dz153_256 (ialR hg (by decide +kernel) (ix8 hc7 (by omega)) (by omega) (by rw [al217]; omega) (rd_fl (hfl.2 _ (by omega) (by omega))))).trans ?_
    refine (stD (pc := 257) dz153_257 rfl).trans ?_
    refine (stD (pc := 258) dz153_258 (iasR hg (by decide +kernel) (w32n (by omega)) (by omega) (by rw [al216]; omega))).trans ?_
    refine (stD (pc := 259) dz153_259 rfl).trans ?_
    refine (stD (pc := 262) dz153_262 rfl).trans ?_
    rfl
theorem subW0 {W : WrT} : subW [] W = true := rfl
theorem hd3 {z : Int → Int} (hz : zOK z) {h0 : PH} {g : PG} (hg : gInv g) (hf : FlS h0) {n : Nat} (hn : n ≤ 7) (hc : h0 214 0 = (n : Int)) {c s : Nat} (hc7 : c < 7) (hs : s < 128) {P all w : Int} :
    ∀ (k a : Nat) (left : Int) (h : PH), a + k = n → IW Wh h0 h → (∀ i : Int, 0 ≤ i → i < 64 → 0 ≤ h 217 i ∧ h 217 i ≤ P + 1 ∧ (8 * (c : Int) + (a : Int) ≤ i → h 217 i ≤ P)) →
    ∃ (left' : Int) (h' : PH), XCD z 153 (160, [some (vR 213), some (vI (c : Int)), some (vI (s : Int)), some (vI all), some (vI w), some (vI left), some (vI (a : Int))], [], h, g) = XCD z 153 (226, [some (vR 213), some (vI (c : Int)), some (vI (s : Int)), some (vI all), some (vI w), some (vI left'), some (vI 0)], [], h', g) ∧ IW Wh h0 h' ∧ PB h' (P + 1) ∧ (∀ i, h' 216 i = h 216 i) := by
  intro k
  induction k with
  | zero =>
    intro a left h hk hI hB
    have e0 : h 214 0 = (n : Int) := (ns214 (hI.2.ns scWh) 0).trans hc
    have hge : ccmp .ge (a : Int) (h 214 0) = true := ccge_t (by rw [e0, w32n (by omega), w32n (by omega)]; omega)
    refine ⟨left, h, ?_, hI, fun i i0 i1 => ⟨(hB i i0 i1).1, (hB i i0 i1).2.1⟩, fun _ => rfl⟩
    refine (stD (pc := 160) dz153_160 rfl).trans ?_
    refine (stD (pc := 162) dz153_162 rfl).trans ?_
    refine (stD (pc := 163) dz153_163 (gfg hm153 hg)).trans ?_
    refine (stD (pc := 166) dz153_166 rfl).trans ?_
    refine (stD (pc := 167) dz153_167 (ialC hg)).trans ?_
    refine (stD (pc := 168) dz153_168 (jcD true (by decide) (hge))).trans ?_
    refine (stD (pc := 223) dz153_223 rfl).trans ?_
    refine (stD (pc := 224) dz153_224 rfl).trans ?_
    rfl
  | succ k ih =>
    intro a left h hk hI hB
    have e0 : h 214 0 = (n : Int) := (ns214 (hI.2.ns scWh) 0).trans hc
    have hlt : ccmp .ge (a : Int) (h 214 0) = false := ccge_f (by rw [e0, w32n (by omega), w32n (by omega)]; omega)
    have hfl := FlS.fr hI.2 hf
    have hB' : ∀ i : Int, 0 ≤ i → i < 64 → 0 ≤ h 217 i ∧ h 217 i ≤ P + 1 ∧ (8 * (c : Int) + ((a + 1 : Nat) : Int) ≤ i → h 217 i ≤ P) := fun i i0 i1 => ⟨(hB i i0 i1).1, (hB i i0 i1).2.1, fun q => (hB i i0 i1).2.2 (by omega)⟩
    have hd := hasD (z := z) hs (by omega : a < 8) (h := h) (g := g)
    cases hq : ccmp .le left 0 with
    | true =>
      refine ⟨left, h, ?_, hI, fun i i0 i1 => ⟨(hB i i0 i1).1, (hB i i0 i1).2.1⟩, fun _ => rfl⟩
      refine (stD (pc := 160) dz153_160 rfl).trans ?_
      refine (stD (pc := 162) dz153_162 rfl).trans ?_
      refine (stD (pc := 163) dz153_163 (gfg hm153 hg)).trans ?_
      refine (stD (pc := 166) dz153_166 rfl).trans ?_
      refine (stD (pc := 167) dz153_167 (ialC hg)).trans ?_
      refine (stD (pc := 168) dz153_168 (jcD false (by decide) (hlt))).trans ?_
      refine (stD (pc := 171) dz153_171 rfl).trans ?_
      refine (stD (pc := 173) dz153_173 (j0D true (by decide) (hq))).trans ?_
      refine (stD (pc := 223) dz153_223 rfl).trans ?_
      refine (stD (pc := 224) dz153_224 rfl).trans ?_
      rfl
    | false =>
      cases hh : hasB s a with
      | false =>
        rw [hh] at hd
        obtain ⟨l', h', k1, k2, k3, k4⟩ := ih (a + 1) left h (by omega) hI hB'
        refine ⟨l', h', ?_, k2, k3, k4⟩
        refine Eq.trans ?_ k1
        refine (stD (pc := 160) dz153_160 rfl).trans ?_
        refine (stD (pc := 162) dz153_162 rfl).trans ?_
        refine (stD (pc := 163) dz153_163 (gfg hm153 hg)).trans ?_
        refine (stD (pc := 166) dz153_166 rfl).trans ?_
        refine (stD (pc := 167) dz153_167 (ialC hg)).trans ?_
        refine (stD (pc := 168) dz153_168 (jcD false (by decide) (hlt))).trans ?_
        refine (stD (pc := 171) dz153_171 rfl).trans ?_
        refine (stD (pc := 173) dz153_173 (j0D false (by decide) (hq))).trans ?_
        refine (stD (pc := 176) dz153_176 rfl).trans ?_
        refine (stD (pc := 177) dz153_177 rfl).trans ?_
        refine (clD (pc := 179) dz153_179 (csD (by decide +kernel : okC 153 79 1 129 2 40 = true) (by decide +kernel) rfl rfl rfl) (hd)).trans ?_
        refine (stD (pc := 182) dz153_182 (j0D true (by decide) (by unfold ccmp; rfl))).trans ?_
        refine (stD (pc := 217) dz153_217 rfl).trans ?_
        refine (stD (pc := 220) dz153_220 rfl).trans ?_
        rfl
      | true =>
        rw [hh] at hd
        obtain ⟨v, h1, c1, c2, c3, c4, c5, c6⟩ := ctD hz hI.1 hg (by omega : c < 8) (by omega : a < 8)
        have hI1 : IW Wh h0 h1 := IW_tr hI c4 c5 subW0
        have e17 : ∀ i, h1 217 i = h 217 i := fun i => FR0 c5 (by decide) (by decide)
        have e16 : ∀ i, h1 216 i = h 216 i := fun i => FR0 c5 (by decide) (by decide)
        by_cases hv : v = 0
        · obtain ⟨l', h', k1, k2, k3, k4⟩ := ih (a + 1) left h1 (by omega) hI1 (fun i i0 i1 => by rw [e17]; exact hB' i i0 i1)
          refine ⟨l', h', ?_, k2, k3, fun i => (k4 i).trans (e16 i)⟩
          refine Eq.trans ?_ k1
          refine (stD (pc := 160) dz153_160 rfl).trans ?_
          refine (stD (pc := 162) dz153_162 rfl).trans ?_
          refine (stD (pc := 163) dz153_163 (gfg hm153 hg)).trans ?_
          refine (stD (pc := 166) dz153_166 rfl).trans ?_
          refine (stD (pc := 167) dz153_167 (ialC hg)).trans ?_
          refine (stD (pc := 168) dz153_168 (jcD false (by decide) (hlt))).trans ?_
          refine (stD (pc := 171) dz153_171 rfl).trans ?_
          refine (stD (pc := 173) dz153_173 (j0D false (by decide) (hq))).trans ?_
          refine (stD (pc := 176) dz153_176 rfl).trans ?_
          refine (stD (pc := 177) dz153_177 rfl).trans ?_
          refine (clD (pc := 179) dz153_179 (csD (by decide +kernel : okC 153 79 1 129 2 40 = true) (by decide +kernel) rfl rfl rfl) (hd)).trans ?_
          refine (stD (pc := 182) dz153_182 (j0D false (by decide) (by unfold ccmp; decide +kernel))).trans ?_
          refine (stD (pc := 185) dz153_185 rfl).trans ?_
          refine (stD (pc := 186) dz153_186 rfl).trans ?_
          refine (stD (pc := 187) dz153_187 rfl).trans ?_
          refine (clD (pc := 189) dz153_189 (cvD (by decide +kernel : okC 153 101 0 148 3 56 = true) hm153 hg rfl rfl rfl rfl) (c1)).trans ?_
          refine (stD (pc := 192) dz153_192 (j0D false (by decide) (by rw [hv]; decide +kernel))).trans ?_
          refine (stD (pc := 195) dz153_195 rfl).trans ?_
          refine (stD (pc := 217) dz153_217 rfl).trans ?_
          refine (stD (pc := 220) dz153_220 rfl).trans ?_
          rfl
        · have hfl1 := FlS.fr hI1.2 hf
          have hx : w32 (8 * (c : Int) + (a : Int)) = ((8 * c + a : Nat) : Int) := by rw [ix8 hc7 (by omega)]; omega
          have hp := hB ((8 * c + a : Nat) : Int) (by omega) (by omega)
          have hp2 := hp.2.2 (by omega)
          obtain ⟨l', h', k1, k2, k3, k4⟩ := ih (a + 1) (left + -1) (fl1 (u2 h1 217 ((8 * c + a : Nat) : Int) (h1 217 ((8 * c + a : Nat) : Int) + 1)) 217 ((8 * c + a : Nat) : Int)) (by omega) (wr7 hI1 (by omega) _) (fun i i0 i1 => by
            rw [rd_a (by decide) (by decide), e17, e17]
            by_cases hia : i = ((8 * c + a : Nat) : Int)
            · rw [if_pos hia]
              exact ⟨by omega, by omega, fun hh => by omega⟩
            · rw [if_neg hia]
              exact hB' i i0 i1)
          refine ⟨l', h', ?_, k2, k3, fun i => (k4 i).trans ((rd_o (by decide) (by decide) (by decide)).trans (e16 i))⟩
          refine Eq.trans ?_ k1
          refine (stD (pc := 160) dz153_160 rfl).trans ?_
          refine (stD (pc := 162) dz153_162 rfl).trans ?_
          refine (stD (pc := 163) dz153_163 (gfg hm153 hg)).trans ?_
          refine (stD (pc := 166) dz153_166 rfl).trans ?_
          refine (stD (pc := 167) dz153_167 (ialC hg)).trans ?_
          refine (stD (pc := 168) dz153_168 (jcD false (by decide) (hlt))).trans ?_
          refine (stD (pc := 171) dz153_171 rfl).trans ?_
          refine (stD (pc := 173) dz153_173 (j0D false (by decide) (hq))).trans ?_
          refine (stD (pc := 176) dz153_176 rfl).trans ?_
          refine (stD (pc := 177) dz153_177 rfl).trans ?_
          refine (clD (pc := 179) dz153_179 (csD (by decide +kernel : okC 153 79 1 129 2 40 = true) (by decide +kernel) rfl rfl rfl) (hd)).trans ?_
          refine (stD (pc := 182) dz153_182 (j0D false (by decide) (by unfold ccmp; decide +kernel))).trans ?_
          refine (stD (pc := 185) dz153_185 rfl).trans ?_
          refine (stD (pc := 186) dz153_186 rfl).trans ?_
          refine (stD (pc := 187) dz153_187 rfl).trans ?_
          refine (clD (pc := 189) dz153_189 (cvD (by decide +kernel : okC 153 101 0 148 3 56 = true) hm153 hg rfl rfl rfl rfl) (c1)).trans ?_
          refine (stD (pc := 192) dz153_192 (j0D true (by decide) (ccne_t (by rw [w320, e_small (by omega) (by omega)]; exact hv)))).trans ?_
          refine (stD (pc := 198) dz153_198 rfl).trans ?_
          refine (stD (pc := 199) dz153_199 (gfparts hm153 hg)).trans ?_
          refine (stD (pc := 202) dz153_202 rfl).trans ?_
          refine (stD (pc := 204) dz153_204 rfl).trans ?_
          refine (stD (pc := 205) dz153_205 rfl).trans ?_
          refine (stD (pc := 206) dz153_206 rfl).trans ?_
          refine (stD (pc := 208) dz153_208 rfl).trans ?_
          refine (stD (pc := 209) dz153_209 rfl).trans ?_
          refine (stD (pc := 210) dz153_210 (ialR hg (by decide +kernel) hx (by omega) (by rw [al217]; omega) (rd_fl (hfl1.2 _ (by omega) (by omega))))).trans ?_
          refine (stD (pc := 211) dz153_211 rfl).trans ?_
          refine (stD (pc := 212) dz153_212 rfl).trans ?_
          refine (stD (pc := 213) dz153_213 (iasR hg (by decide +kernel) hx (by omega) (by rw [al217]; omega))).trans ?_
          refine (stD (pc := 214) dz153_214 rfl).trans ?_
          refine (stD (pc := 217) dz153_217 rfl).trans ?_
          refine (stD (pc := 220) dz153_220 rfl).trans ?_
          rfl
theorem dvi {z : Int → Int} {m pc : Nat} {ls : PL} {st : List PV} {x y : Int} {h : PH} {g : PG} (hy : w32 y ≠ 0) : xiD z m .idiv 1 pc ls (vI y :: vI x :: st) h g = some (.inl (pc + 1, ls, vI (divI x y) :: st, h, g)) := by
  have e : xiD z m .idiv 1 pc ls (vI y :: vI x :: st) h g = (if w32 y = 0 then none else nx (pc + 1) ls (vI (divI x y) :: st) h g) := rfl
  rw [e, if_neg hy]
  rfl
/-- whatever a contact comes to, it is at most m -/
def ctLe (z : Int → Int) (g : PG) (h0 : PH) (c a : Nat) (m : Int) : Prop := ∀ (h h' : PH) (v : Int), NS h0 h → CALLD z 148 [vR 213, vI (c : Int), vI (a : Int)] h g = some (some (vI v), h', g) → v ≤ m
theorem ct_det {z : Int → Int} (hz : zOK z) {h1 h2 h1' h2' : PH} {g : PG} (hB : BI h1) (hg : gInv g) (hN : NS h1 h2) {b a : Int} (hb : 0 ≤ b ∧ b ≤ 7) (ha : 0 ≤ a ∧ a ≤ 7) {v1 v2 : Option PV} (e1 : CALLD z 148 [vR 213, vI b, vI a] h1 g = some (v1, h1', g)) (e2 : CALLD z 148 [vR 213, vI b, vI a] h2 g = some (v2, h2', g)) : v1 = v2 := by
  obtain ⟨v, h', r1, -⟩ := ct_ex hz (BI_clr hB) hg hb ha
  obtain ⟨k1, s1, -⟩ := CALLD_sim r1 (simR_clr (h' := h1) (fun _ _ _ _ _ => rfl))
  obtain ⟨k2, s2, -⟩ := CALLD_sim r1 (simR_clr hN)
  obtain ⟨k3, s3, -⟩ := CALLD_sim e1 (simR_self h1)
  obtain ⟨k4, s4, -⟩ := CALLD_sim e2 (simR_self h2)
  rw [s1] at s3
  rw [s2] at s4
  cases s3
  cases s4
  rfl
theorem NS.symm {h h' : PH} (hn : NS h h') : NS h' h := fun a k h0 h1 hs => (hn a k h0 h1 hs).symm
theorem NS.tr {h h' h2 : PH} (hn : NS h h') (hm : NS h' h2) : NS h h2 := fun a k h0 h1 hs => (hm a k h0 h1 hs).trans (hn a k h0 h1 hs)
theorem hd2 {z : Int → Int} (hz : zOK z) {h0 : PH} {g : PG} (hg : gInv g) (hf : FlS h0) {n : Nat} (hn : n ≤ 7) (hc : h0 214 0 = (n : Int)) {c s : Nat} (hc7 : c < 7) (hs : s < 128) {P all w : Int} (hw0 : 0 ≤ w) (hwP : w ≤ P) (hP : P ≤ 1000000) (ha1 : 1 ≤ all) (ha2 : all ≤ 2000) (hct : ∀ a : Nat, a < n → hasB s a = true → ctLe z g h0 c a all) :
    ∀ (k a : Nat) (left : Int) (h : PH), a + k = n → IW Wh h0 h → PB h P →
    ∃ (left' : Int) (h' : PH), XCD z 153 (87, [some (vR 213), some (vI (c : Int)), some (vI (s : Int)), some (vI all), some (vI w), some (vI left), some (vI (a : Int))], [], h, g) = XCD z 153 (160, [some (vR 213), some (vI (c : Int)), some (vI (s : Int)), some (vI all), some (vI w), some (vI left'), some (vI 0)], [], h', g) ∧ IW Wh h0 h' ∧ PB h' P ∧ (∀ i, h' 216 i = h 216 i) := by
  intro k
  induction k with
  | zero =>
    intro a left h hk hI hB
    have e0 : h 214 0 = (n : Int) := (ns214 (hI.2.ns scWh) 0).trans hc
    have hge : ccmp .ge (a : Int) (h 214 0) = true := ccge_t (by rw [e0, w32n (by omega), w32n (by omega)]; omega)
    refine ⟨left, h, ?_, hI, hB, fun _ => rfl⟩
    refine (stD (pc := 87) dz153_87 rfl).trans ?_
    refine (stD (pc := 89) dz153_89 rfl).trans ?_
    refine (stD (pc := 90) dz153_90 (gfg hm153 hg)).trans ?_
    refine (stD (pc := 93) dz153_93 rfl).trans ?_
    refine (stD (pc := 94) dz153_94 (ialC hg)).trans ?_
    refine (stD (pc := 95) dz153_95 (jcD true (by decide) (hge))).trans ?_
    refine (stD (pc := 157) dz153_157 rfl).trans ?_
    refine (stD (pc := 158) dz153_158 rfl).trans ?_
    rfl
  | succ k ih =>
    intro a left h hk hI hB
    have e0 : h 214 0 = (n : Int) := (ns214 (hI.2.ns scWh) 0).trans hc
    have hlt : ccmp .ge (a : Int) (h 214 0) = false := ccge_f (by rw [e0, w32n (by omega), w32n (by omega)]; omega)
    have hd := hasD (z := z) hs (by omega : a < 8) (h := h) (g := g)
    cases hh : hasB s a with
    | false =>
      rw [hh] at hd
      obtain ⟨l', h', k1, k2, k3, k4⟩ := ih (a + 1) left h (by omega) hI hB
      refine ⟨l', h', ?_, k2, k3, k4⟩
      refine Eq.trans ?_ k1
      refine (stD (pc := 87) dz153_87 rfl).trans ?_
      refine (stD (pc := 89) dz153_89 rfl).trans ?_
      refine (stD (pc := 90) dz153_90 (gfg hm153 hg)).trans ?_
      refine (stD (pc := 93) dz153_93 rfl).trans ?_
      refine (stD (pc := 94) dz153_94 (ialC hg)).trans ?_
      refine (stD (pc := 95) dz153_95 (jcD false (by decide) (hlt))).trans ?_
      refine (stD (pc := 98) dz153_98 rfl).trans ?_
      refine (stD (pc := 99) dz153_99 rfl).trans ?_
      refine (clD (pc := 101) dz153_101 (csD (by decide +kernel : okC 153 79 1 129 2 40 = true) (by decide +kernel) rfl rfl rfl) (hd)).trans ?_
      refine (stD (pc := 104) dz153_104 (j0D false (by decide) (by unfold ccmp; decide +kernel))).trans ?_
      refine (stD (pc := 107) dz153_107 rfl).trans ?_
      refine (stD (pc := 151) dz153_151 rfl).trans ?_
      refine (stD (pc := 154) dz153_154 rfl).trans ?_
      rfl
    | true =>
      rw [hh] at hd
      obtain ⟨v, h1, c1, c2, c3, c4, c5, c6⟩ := ctD hz hI.1 hg (by omega : c < 8) (by omega : a < 8)
      have hva : v ≤ all := hct a (by omega) hh h h1 v (hI.2.ns scWh) c1
      have hI1 : IW Wh h0 h1 := IW_tr hI c4 c5 subW0
      have e17 : ∀ i, h1 217 i = h 217 i := fun i => FR0 c5 (by decide) (by decide)
      have e16 : ∀ i, h1 216 i = h 216 i := fun i => FR0 c5 (by decide) (by decide)
      have m1 : w * v ≤ w * all := Int.mul_le_mul_of_nonneg_left hva hw0
      have m0 : 0 ≤ w * v := Int.mul_nonneg hw0 c2
      have m2 : w * v ≤ 1000000 * 144 := Int.le_trans (Int.mul_le_mul_of_nonneg_right (by omega : w ≤ 1000000) c2) (Int.mul_le_mul_of_nonneg_left c3 (by omega))
      have hq := (divI_pos (X := w * v) (k := all) m0 (by omega) ha1 (by omega)).1
      have q0 : 0 ≤ w * v / all := Int.ediv_nonneg m0 (by omega)
      have q1 : w * v / all ≤ w := Int.ediv_le_of_le_mul (by omega) m1
      have hx : w32 (8 * (c : Int) + (a : Int)) = ((8 * c + a : Nat) : Int) := by rw [ix8 hc7 (by omega)]; omega
      have hal0 : w32 all ≠ 0 := by rw [e_small (by omega) (by omega)]; omega
      have hI2 := wr7 hI1 (j := 8 * c + a) (by omega) (divI (w * v) all)
      have hfl2 := FlS.fr hI2.2 hf
      obtain ⟨l', h', k1, k2, k3, k4⟩ := ih (a + 1) (left - fl1 (u2 h1 217 ((8 * c + a : Nat) : Int) (divI (w * v) all)) 217 ((8 * c + a : Nat) : Int) 217 ((8 * c + a : Nat) : Int)) _ (by omega) hI2 (fun i i0 i1 => by
        rw [rd_a (by decide) (by decide), e17, hq]
        by_cases hia : i = ((8 * c + a : Nat) : Int)
        · rw [if_pos hia]
          exact ⟨q0, by omega⟩
        · rw [if_neg hia]
          exact hB i i0 i1)
      refine ⟨l', h', ?_, k2, k3, fun i => (k4 i).trans ((rd_o (by decide) (by decide) (by decide)).trans (e16 i))⟩
      refine Eq.trans ?_ k1
      refine (stD (pc := 87) dz153_87 rfl).trans ?_
      refine (stD (pc := 89) dz153_89 rfl).trans ?_
      refine (stD (pc := 90) dz153_90 (gfg hm153 hg)).trans ?_
      refine (stD (pc := 93) dz153_93 rfl).trans ?_
      refine (stD (pc := 94) dz153_94 (ialC hg)).trans ?_
      refine (stD (pc := 95) dz153_95 (jcD false (by decide) (hlt))).trans ?_
      refine (stD (pc := 98) dz153_98 rfl).trans ?_
      refine (stD (pc := 99) dz153_99 rfl).trans ?_
      refine (clD (pc := 101) dz153_101 (csD (by decide +kernel : okC 153 79 1 129 2 40 = true) (by decide +kernel) rfl rfl rfl) (hd)).trans ?_
      refine (stD (pc := 104) dz153_104 (j0D true (by decide) (by unfold ccmp; decide +kernel))).trans ?_
      refine (stD (pc := 110) dz153_110 rfl).trans ?_
      refine (stD (pc := 111) dz153_111 (gfparts hm153 hg)).trans ?_
      refine (stD (pc := 114) dz153_114 rfl).trans ?_
      refine (stD (pc := 116) dz153_116 rfl).trans ?_
      refine (stD (pc := 117) dz153_117 rfl).trans ?_
      refine (stD (pc := 118) dz153_118 rfl).trans ?_
      refine (stD (pc := 120) dz153_120 rfl).trans ?_
      refine (stD (pc := 121) dz153_121 rfl).trans ?_
      refine (stD (pc := 123) dz153_123 rfl).trans ?_
      refine (stD (pc := 124) dz153_124 rfl).trans ?_
      refine (stD (pc := 125) dz153_125 rfl).trans ?_
      refine (clD (pc := 127) dz153_127 (cvD (by decide +kernel : okC 153 101 0 148 3 56 = true) hm153 hg rfl rfl rfl rfl) (c1)).trans ?_
      refine (stD (pc := 130) dz153_130 rfl).trans ?_
      refine (stD (pc := 131) dz153_131 rfl).trans ?_
      refine (stD (pc := 132) dz153_132 (dvi hal0)).trans ?_
      refine (stD (pc := 133) dz153_133 (iasR hg (by decide +kernel) hx (by omega) (by rw [al217]; omega))).trans ?_
      refine (stD (pc := 134) dz153_134 rfl).trans ?_
      refine (stD (pc := 136) dz153_136 rfl).trans ?_
      refine (stD (pc := 137) dz153_137 (gfparts hm153 hg)).trans ?_
      refine (stD (pc := 140) dz153_140 rfl).trans ?_
      refine (stD (pc := 142) dz153_142 rfl).trans ?_
      refine (stD (pc := 143) dz153_143 rfl).trans ?_
      refine (stD (pc := 144) dz153_144 rfl).trans ?_
      refine (stD (pc := 146) dz153_146 rfl).trans ?_
      refine (stD (pc := 147) dz153_147 (ialR hg (by decide +kernel) hx (by omega) (by rw [al217]; omega) (rd_fl (hfl2.2 _ (by omega) (by omega))))).trans ?_
      refine (stD (pc := 148) dz153_148 rfl).trans ?_
      refine (stD (pc := 149) dz153_149 rfl).trans ?_
      refine (stD (pc := 151) dz153_151 rfl).trans ?_
      refine (stD (pc := 154) dz153_154 rfl).trans ?_
      rfl
theorem hd1 {z : Int → Int} (hz : zOK z) {h0 : PH} {g : PG} (hB0 : BI h0) (hg : gInv g) {n : Nat} (hn : n ≤ 7) (hc : h0 214 0 = (n : Int)) {c s : Nat} (hc7 : c < 7) (hs : s < 128) {o4 o5 o6 : Option PV} :
    ∀ (k a : Nat) (all : Int) (h : PH), a + k = n → IW Wh h0 h → 0 ≤ all → all ≤ 144 * (a : Int) → (∀ b : Nat, b < a → hasB s b = true → ctLe z g h0 c b all) →
    ∃ (all' : Int) (h' : PH), XCD z 153 (5, [some (vR 213), some (vI (c : Int)), some (vI (s : Int)), some (vI all), some (vI (a : Int)), o5, o6], [], h, g) = XCD z 153 (45, [some (vR 213), some (vI (c : Int)), some (vI (s : Int)), some (vI all'), some (vI (n : Int)), o5, o6], [], h', g) ∧ IW Wh h0 h' ∧ 0 ≤ all' ∧ all' ≤ 1008 ∧ (∀ b : Nat, b < n → hasB s b = true → ctLe z g h0 c b all') ∧ (∀ i, h' 216 i = h 216 i) ∧ (∀ i, h' 217 i = h 217 i) := by
  intro k
  induction k with
  | zero =>
    intro a all h hk hI h0a h1a hct
    have han : a = n := by omega
    subst han
    have e0 : h 214 0 = (a : Int) := (ns214 (hI.2.ns scWh) 0).trans hc
    have hge : ccmp .ge (a : Int) (h 214 0) = true := ccge_t (by rw [e0]; omega)
    refine ⟨all, h, ?_, hI, h0a, by omega, hct, fun _ => rfl, fun _ => rfl⟩
    refine (stD (pc := 5) dz153_5 rfl).trans ?_
    refine (stD (pc := 7) dz153_7 rfl).trans ?_
    refine (stD (pc := 8) dz153_8 (gfg hm153 hg)).trans ?_
    refine (stD (pc := 11) dz153_11 rfl).trans ?_
    refine (stD (pc := 12) dz153_12 (ialC hg)).trans ?_
    refine (stD (pc := 13) dz153_13 (jcD true (by decide) (hge))).trans ?_
    rfl
  | succ k ih =>
    intro a all h hk hI h0a h1a hct
    have e0 : h 214 0 = (n : Int) := (ns214 (hI.2.ns scWh) 0).trans hc
    have hlt : ccmp .ge (a : Int) (h 214 0) = false := ccge_f (by rw [e0, w32n (by omega), w32n (by omega)]; omega)
    have hd := hasD (z := z) hs (by omega : a < 8) (h := h) (g := g)
    cases hh : hasB s a with
    | false =>
      rw [hh] at hd
      obtain ⟨l', h', k1, k2⟩ := ih (a + 1) (all + 0) h (by omega) hI (by omega) (by omega) (fun b hb hb2 => by
        by_cases hba : b = a
        · rw [hba, hh] at hb2
          cases hb2
        · rw [Int.add_zero]
          exact hct b (by omega) hb2)
      refine ⟨l', h', ?_, k2⟩
      refine Eq.trans ?_ k1
      refine (stD (pc := 5) dz153_5 rfl).trans ?_
      refine (stD (pc := 7) dz153_7 rfl).trans ?_
      refine (stD (pc := 8) dz153_8 (gfg hm153 hg)).trans ?_
      refine (stD (pc := 11) dz153_11 rfl).trans ?_
      refine (stD (pc := 12) dz153_12 (ialC hg)).trans ?_
      refine (stD (pc := 13) dz153_13 (jcD false (by decide) (hlt))).trans ?_
      refine (stD (pc := 16) dz153_16 rfl).trans ?_
      refine (stD (pc := 17) dz153_17 rfl).trans ?_
      refine (stD (pc := 18) dz153_18 rfl).trans ?_
      refine (clD (pc := 20) dz153_20 (csD (by decide +kernel : okC 153 79 1 129 2 40 = true) (by decide +kernel) rfl rfl rfl) (hd)).trans ?_
      refine (stD (pc := 23) dz153_23 (j0D true (by decide) (by unfold ccmp; rfl))).trans ?_
      refine (stD (pc := 36) dz153_36 rfl).trans ?_
      refine (stD (pc := 37) dz153_37 rfl).trans ?_
      refine (stD (pc := 38) dz153_38 rfl).trans ?_
      refine (stD (pc := 39) dz153_39 rfl).trans ?_
      refine (stD (pc := 42) dz153_42 rfl).trans ?_
      rfl
    | true =>
      rw [hh] at hd
      obtain ⟨v, h1, c1, c2, c3, c4, c5, c6⟩ := ctD hz hI.1 hg (by omega : c < 8) (by omega : a < 8)
      have hI1 : IW Wh h0 h1 := IW_tr hI c4 c5 subW0
      obtain ⟨l', h', k1, k2, k3, k4, k5, k6, k7⟩ := ih (a + 1) (all + v) h1 (by omega) hI1 (by omega) (by omega) (fun b hb hb2 => by
        by_cases hba : b = a
        · subst hba
          intro hx hx' vx hN hC
          have hN2 : NS h hx := NS.tr (NS.symm (hI.2.ns scWh)) hN
          have e := ct_det hz hI.1 hg hN2 (by omega) (by omega) c1 hC
          cases e
          omega
        · intro hx hx' vx hN hC
          have := hct b (by omega) hb2 hx hx' vx hN hC
          omega)
      refine ⟨l', h', ?_, k2, k3, k4, k5, fun i => (k6 i).trans (FR0 c5 (by decide) (by decide)), fun i => (k7 i).trans (FR0 c5 (by decide) (by decide))⟩
      refine Eq.trans ?_ k1
      refine (stD (pc := 5) dz153_5 rfl).trans ?_
      refine (stD (pc := 7) dz153_7 rfl).trans ?_
      refine (stD (pc := 8) dz153_8 (gfg hm153 hg)).trans ?_
      refine (stD (pc := 11) dz153_11 rfl).trans ?_
      refine (stD (pc := 12) dz153_12 (ialC hg)).trans ?_
      refine (stD (pc := 13) dz153_13 (jcD false (by decide) (hlt))).trans ?_
      refine (stD (pc := 16) dz153_16 rfl).trans ?_
      refine (stD (pc := 17) dz153_17 rfl).trans ?_
      refine (stD (pc := 18) dz153_18 rfl).trans ?_
      refine (clD (pc := 20) dz153_20 (csD (by decide +kernel : okC 153 79 1 129 2 40 = true) (by decide +kernel) rfl rfl rfl) (hd)).trans ?_
      refine (stD (pc := 23) dz153_23 (j0D false (by decide) (by unfold ccmp; decide +kernel))).trans ?_
      refine (stD (pc := 26) dz153_26 rfl).trans ?_
      refine (stD (pc := 27) dz153_27 rfl).trans ?_
      refine (stD (pc := 28) dz153_28 rfl).trans ?_
      refine (clD (pc := 30) dz153_30 (cvD (by decide +kernel : okC 153 101 0 148 3 56 = true) hm153 hg rfl rfl rfl rfl) (c1)).trans ?_
      refine (stD (pc := 33) dz153_33 rfl).trans ?_
      refine (stD (pc := 37) dz153_37 rfl).trans ?_
      refine (stD (pc := 38) dz153_38 rfl).trans ?_
      refine (stD (pc := 39) dz153_39 rfl).trans ?_
      refine (stD (pc := 42) dz153_42 rfl).trans ?_
      rfl
