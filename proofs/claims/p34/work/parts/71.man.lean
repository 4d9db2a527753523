/-! ===== contracts that are proved by hand: what they say ===== -/
def kc_142 : Con := (90, [(1, none, 0, 0, 0), (1, none, 0, 0, 0), (0, none, 0, 0, 0)], [], [], [], [], [((some (1, (some ((-9223372036854775808), 9223372036854775807)))), [], [], [])])
theorem ko_142 {z : Int → Int} (hz : zOK z) : conOK z kc_142 := by
  sorry
def kc_222 : Con := (218, [(2, none, 1010, 0, 1)], [], [], [], [], [((some (0, (some (3, 3)))), [], [], [])])
theorem ko_222 {z : Int → Int} (hz : zOK z) : conOK z kc_222 := by
  sorry
def kc_223 : Con := (220, [(2, none, 1010, 0, 1), (0, (some (0, 2)), 0, 0, 0)], [], [], [], [], [((some (0, (some (0, 255)))), [], [], [])])
theorem ko_223 {z : Int → Int} (hz : zOK z) : conOK z kc_223 := by
  sorry
def kc_225 : Con := (218, [(2, none, 1011, 0, 1)], [], [], [], [], [((some (0, (some (4, 4)))), [], [], [])])
theorem ko_225 {z : Int → Int} (hz : zOK z) : conOK z kc_225 := by
  sorry
def kc_226 : Con := (220, [(2, none, 1011, 0, 1), (0, (some (0, 3)), 0, 0, 0)], [], [], [], [], [((some (0, (some (0, 255)))), [], [], [])])
theorem ko_226 {z : Int → Int} (hz : zOK z) : conOK z kc_226 := by
  sorry
def kc_228 : Con := (218, [(2, none, 1012, 0, 1)], [], [], [], [], [((some (0, (some (5, 5)))), [], [], [])])
theorem ko_228 {z : Int → Int} (hz : zOK z) : conOK z kc_228 := by
  sorry
def kc_229 : Con := (220, [(2, none, 1012, 0, 1), (0, (some (0, 4)), 0, 0, 0)], [], [], [], [], [((some (0, (some (0, 255)))), [], [], [])])
theorem ko_229 {z : Int → Int} (hz : zOK z) : conOK z kc_229 := by
  sorry
def kc_231 : Con := (218, [(2, none, 1013, 0, 1)], [], [], [], [], [((some (0, (some (3, 3)))), [], [], [])])
theorem ko_231 {z : Int → Int} (hz : zOK z) : conOK z kc_231 := by
  sorry
def kc_232 : Con := (220, [(2, none, 1013, 0, 1), (0, (some (0, 2)), 0, 0, 0)], [], [], [], [], [((some (0, (some (0, 255)))), [], [], [])])
theorem ko_232 {z : Int → Int} (hz : zOK z) : conOK z kc_232 := by
  sorry
