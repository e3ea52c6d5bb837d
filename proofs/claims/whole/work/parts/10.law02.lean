set_option maxRecDepth 100000 in
theorem zdl_12 : zDok ((zk_L_law.drop 480).take 40) cL_law := zDok_of (by decide +kernel)
set_option maxRecDepth 100000 in
theorem zdl_13 : zDok ((zk_L_law.drop 520).take 40) cL_law := zDok_of (by decide +kernel)
set_option maxRecDepth 100000 in
theorem zdl_14 : zDok ((zk_L_law.drop 560).take 40) cL_law := zDok_of (by decide +kernel)
set_option maxRecDepth 100000 in
theorem zdl_15 : zDok ((zk_L_law.drop 600).take 40) cL_law := zDok_of (by decide +kernel)
set_option maxRecDepth 100000 in
theorem zdl_16 : zDok ((zk_L_law.drop 640).take 40) cL_law := zDok_of (by decide +kernel)
set_option maxRecDepth 100000 in
theorem zdl_17 : zDok ((zk_L_law.drop 680).take 40) cL_law := zDok_of (by decide +kernel)
