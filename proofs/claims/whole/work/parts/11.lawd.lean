set_option maxRecDepth 20000 in
theorem zd_L_law : zDok zk_L_law cL_law := by
  refine zDok_cut 40 (zdl_0) ?_
  refine zDok_cut 40 (zdl_1) ?_
  rw [List.drop_drop]
  refine zDok_cut 40 (zdl_2) ?_
  rw [List.drop_drop]
  refine zDok_cut 40 (zdl_3) ?_
  rw [List.drop_drop]
  refine zDok_cut 40 (zdl_4) ?_
  rw [List.drop_drop]
  refine zDok_cut 40 (zdl_5) ?_
  rw [List.drop_drop]
  refine zDok_cut 40 (zdl_6) ?_
  rw [List.drop_drop]
  refine zDok_cut 40 (zdl_7) ?_
  rw [List.drop_drop]
  refine zDok_cut 40 (zdl_8) ?_
  rw [List.drop_drop]
  refine zDok_cut 40 (zdl_9) ?_
  rw [List.drop_drop]
  refine zDok_cut 40 (zdl_10) ?_
  rw [List.drop_drop]
  refine zDok_cut 40 (zdl_11) ?_
  rw [List.drop_drop]
  refine zDok_cut 40 (zdl_12) ?_
  rw [List.drop_drop]
  refine zDok_cut 40 (zdl_13) ?_
  rw [List.drop_drop]
  refine zDok_cut 40 (zdl_14) ?_
  rw [List.drop_drop]
  refine zDok_cut 40 (zdl_15) ?_
  rw [List.drop_drop]
  refine zDok_cut 40 (zdl_16) ?_
  rw [List.drop_drop]
  refine zDok_cut 40 (zdl_17) ?_
  rw [List.drop_drop]
  refine zDok_cut 40 (zdl_18) ?_
  rw [List.drop_drop]
  refine zDok_cut 40 (zdl_19) ?_
  rw [List.drop_drop]
  refine zDok_cut 40 (zdl_20) ?_
  rw [List.drop_drop]
  refine zDok_cut 40 (zdl_21) ?_
  rw [List.drop_drop]
  refine zDok_cut 40 (zdl_22) ?_
  rw [List.drop_drop]
  refine zDok_cut 40 (zdl_23) ?_
  rw [List.drop_drop]
  intro e he
  refine zdl_24 e ?_
  rw [List.take_of_length_le (by decide +kernel)]
  exact he
