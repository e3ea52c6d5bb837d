theorem zDok_cut {K : zK} {cc : ByteArray} (n : Nat) (h1 : zDok (K.take n) cc) (h2 : zDok (K.drop n) cc) : zDok K cc := by
  intro e he
  rw [← List.take_append_drop n K] at he
  rcases List.mem_append.mp he with h | h
  · exact h1 e h
  · exact h2 e h
set_option maxRecDepth 100000 in
theorem zdl_0 : zDok ((zk_L_law.drop 0).take 40) cL_law := zDok_of (by decide +kernel)
set_option maxRecDepth 100000 in
theorem zdl_1 : zDok ((zk_L_law.drop 40).take 40) cL_law := zDok_of (by decide +kernel)
set_option maxRecDepth 100000 in
theorem zdl_2 : zDok ((zk_L_law.drop 80).take 40) cL_law := zDok_of (by decide +kernel)
set_option maxRecDepth 100000 in
theorem zdl_3 : zDok ((zk_L_law.drop 120).take 40) cL_law := zDok_of (by decide +kernel)
set_option maxRecDepth 100000 in
theorem zdl_4 : zDok ((zk_L_law.drop 160).take 40) cL_law := zDok_of (by decide +kernel)
set_option maxRecDepth 100000 in
theorem zdl_5 : zDok ((zk_L_law.drop 200).take 40) cL_law := zDok_of (by decide +kernel)
