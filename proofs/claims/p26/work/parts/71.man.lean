/-! ===== contracts that are proved by hand: what they say ===== -/
def kc_142 : Con := (90, [(1, none, 0, 0, 0), (1, none, 0, 0, 0), (0, none, 0, 0, 0)], [], [], [], [], [((some (1, (some ((-9223372036854775808), 9223372036854775807)))), [], [], [])])
theorem ko_142 {z : Int → Int} (hz : zOK z) : conOK z kc_142 := con_low
def kc_222 : Con := (218, [(2, none, 1010, 0, 1)], [], [], [], [], [((some (0, (some (3, 3)))), [], [], [])])
theorem ko_222 {z : Int → Int} (hz : zOK z) : conOK z kc_222 := con_len (fun h g => c218_0)
def kc_223 : Con := (220, [(2, none, 1010, 0, 1), (0, (some (0, 2)), 0, 0, 0)], [], [], [], [], [((some (0, (some (0, 255)))), [], [], [])])
theorem ko_223 {z : Int → Int} (hz : zOK z) : conOK z kc_223 := con_chr (fun i h0 h1 => by
  rcases (show i = 0 ∨ i = 1 ∨ i = 2 from by omega) with rfl | rfl | rfl
  · exact ⟨98, by decide, by decide, fun h g => c220_0_0⟩
  · exact ⟨111, by decide, by decide, fun h g => c220_0_1⟩
  · exact ⟨120, by decide, by decide, fun h g => c220_0_2⟩)
def kc_225 : Con := (218, [(2, none, 1011, 0, 1)], [], [], [], [], [((some (0, (some (4, 4)))), [], [], [])])
theorem ko_225 {z : Int → Int} (hz : zOK z) : conOK z kc_225 := con_len (fun h g => c218_1)
def kc_226 : Con := (220, [(2, none, 1011, 0, 1), (0, (some (0, 3)), 0, 0, 0)], [], [], [], [], [((some (0, (some (0, 255)))), [], [], [])])
theorem ko_226 {z : Int → Int} (hz : zOK z) : conOK z kc_226 := con_chr (fun i h0 h1 => by
  rcases (show i = 0 ∨ i = 1 ∨ i = 2 ∨ i = 3 from by omega) with rfl | rfl | rfl | rfl
  · exact ⟨107, by decide, by decide, fun h g => c220_1_0⟩
  · exact ⟨105, by decide, by decide, fun h g => c220_1_1⟩
  · exact ⟨110, by decide, by decide, fun h g => c220_1_2⟩
  · exact ⟨100, by decide, by decide, fun h g => c220_1_3⟩)
def kc_228 : Con := (218, [(2, none, 1012, 0, 1)], [], [], [], [], [((some (0, (some (5, 5)))), [], [], [])])
theorem ko_228 {z : Int → Int} (hz : zOK z) : conOK z kc_228 := con_len (fun h g => c218_2)
def kc_229 : Con := (220, [(2, none, 1012, 0, 1), (0, (some (0, 4)), 0, 0, 0)], [], [], [], [], [((some (0, (some (0, 255)))), [], [], [])])
theorem ko_229 {z : Int → Int} (hz : zOK z) : conOK z kc_229 := con_chr (fun i h0 h1 => by
  rcases (show i = 0 ∨ i = 1 ∨ i = 2 ∨ i = 3 ∨ i = 4 from by omega) with rfl | rfl | rfl | rfl | rfl
  · exact ⟨119, by decide, by decide, fun h g => c220_2_0⟩
  · exact ⟨101, by decide, by decide, fun h g => c220_2_1⟩
  · exact ⟨105, by decide, by decide, fun h g => c220_2_2⟩
  · exact ⟨103, by decide, by decide, fun h g => c220_2_3⟩
  · exact ⟨104, by decide, by decide, fun h g => c220_2_4⟩)
def kc_231 : Con := (218, [(2, none, 1013, 0, 1)], [], [], [], [], [((some (0, (some (3, 3)))), [], [], [])])
theorem ko_231 {z : Int → Int} (hz : zOK z) : conOK z kc_231 := con_len (fun h g => c218_3)
def kc_232 : Con := (220, [(2, none, 1013, 0, 1), (0, (some (0, 2)), 0, 0, 0)], [], [], [], [], [((some (0, (some (0, 255)))), [], [], [])])
theorem ko_232 {z : Int → Int} (hz : zOK z) : conOK z kc_232 := con_chr (fun i h0 h1 => by
  rcases (show i = 0 ∨ i = 1 ∨ i = 2 from by omega) with rfl | rfl | rfl
  · exact ⟨111, by decide, by decide, fun h g => c220_3_0⟩
  · exact ⟨102, by decide, by decide, fun h g => c220_3_1⟩
  · exact ⟨102, by decide, by decide, fun h g => c220_3_2⟩)
