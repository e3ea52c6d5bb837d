set_option maxRecDepth 100000 in
theorem zdl_18 : zDok ((zk_L_law.drop 720).take 40) cL_law := zDok_of (by decide +kernel)
set_option maxRecDepth 100000 in
theorem zdl_19 : zDok ((zk_L_law.drop 760).take 40) cL_law := zDok_of (by decide +kernel)
set_option maxRecDepth 100000 in
theorem zdl_20 : zDok ((zk_L_law.drop 800).take 40) cL_law := zDok_of (by decide +kernel)
set_option maxRecDepth 100000 in
theorem zdl_21 : zDok ((zk_L_law.drop 840).take 40) cL_law := zDok_of (by decide +kernel)
set_option maxRecDepth 100000 in
theorem zdl_22 : zDok ((zk_L_law.drop 880).take 40) cL_law := zDok_of (by decide +kernel)
set_option maxRecDepth 100000 in
theorem zdl_23 : zDok ((zk_L_law.drop 920).take 40) cL_law := zDok_of (by decide +kernel)
