set_option maxRecDepth 100000 in
theorem zdl_6 : zDok ((zk_L_law.drop 240).take 40) cL_law := zDok_of (by decide +kernel)
set_option maxRecDepth 100000 in
theorem zdl_7 : zDok ((zk_L_law.drop 280).take 40) cL_law := zDok_of (by decide +kernel)
set_option maxRecDepth 100000 in
theorem zdl_8 : zDok ((zk_L_law.drop 320).take 40) cL_law := zDok_of (by decide +kernel)
set_option maxRecDepth 100000 in
theorem zdl_9 : zDok ((zk_L_law.drop 360).take 40) cL_law := zDok_of (by decide +kernel)
set_option maxRecDepth 100000 in
theorem zdl_10 : zDok ((zk_L_law.drop 400).take 40) cL_law := zDok_of (by decide +kernel)
set_option maxRecDepth 100000 in
theorem zdl_11 : zDok ((zk_L_law.drop 440).take 40) cL_law := zDok_of (by decide +kernel)
