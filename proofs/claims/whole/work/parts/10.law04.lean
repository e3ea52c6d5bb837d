set_option maxRecDepth 100000 in
theorem zdl_24 : zDok ((zk_L_law.drop 960).take 40) cL_law := zDok_of (by decide +kernel)
