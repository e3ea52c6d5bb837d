set_option maxRecDepth 20000 in
set_option maxHeartbeats 4000000 in
theorem zlaw_loop (S : Nat × (Nat → Int32)) (hS : S.1 ≤ 320) : ∀ (i n : Nat) (ξ : Nat → Nat → Int32) (ρ : zRho) (a b : Nat), zInv n ξ ρ → 5 * i ≤ S.1 → 2 * (65 - i) ≤ a → 42 * (65 - i) ≤ b → Zw S (Zc S 40) 9 false 3 zk_L_law (fun r _ => r = some (.int 1)) (18, [some (.retAddr 4), some (.ref 0), some (.ref 42), some (.int (nI (5 * i)))], [], (a, b), zWof n ξ ρ) := by
  have key : ∀ (k : Nat) (i : Nat) (n : Nat) (ξ : Nat → Nat → Int32) (ρ : zRho) (a : Nat) (b : Nat), S.1 - 5 * i = k → zInv n ξ ρ → 5 * i ≤ S.1 → 2 * (65 - i) ≤ a → 42 * (65 - i) ≤ b →  Zw S (Zc S 40) 9 false 3 zk_L_law (fun r _ => r = some (.int 1)) (18, [some (.retAddr 4), some (.ref 0), some (.ref 42), some (.int (nI (5 * i)))], [], (a, b), zWof n ξ ρ) := by
    intro k
    induction k using Nat.strongRecOn with
    | ind k ih =>
      intro i n ξ ρ a b hk inv hi ha hb
      refine zr_iload_n 19 rfl rfl rfl ?_
      refine zr_aload_n 20 rfl rfl rfl trivial ?_
      refine zr_alenc 21 rfl rfl (by decide) rfl ?_
      refine zr_iconst 22 (x := 5) rfl rfl (by decide) ?_
      refine zr_isub 23 rfl rfl ?_
      refine zr_icmp_gt 1411 26 rfl rfl (by decide) (fun c23z => ?_) (fun c23z => ?_)
      · refine zr_iconst 1412 (x := 1) rfl rfl (by decide) ?_
        refine zr_zret rfl rfl (Or.inr rfl) ?_
        rfl
      · have hi2 : 5 * i + 5 ≤ S.1 := by
          have z : nI (5 * i) ≤ nI S.1 - 5 := Int32.not_lt.mp c23z
          have z2 := Int32.le_iff_toInt_le.mp z
          have e5 : (5 : Int32).toInt = 5 := by decide
          rw [zTsub (by rw [nI_toInt (by omega), e5]; omega) (by rw [nI_toInt (by omega), e5]; omega), nI_toInt (by omega), nI_toInt (by omega), e5] at z2
          omega
        have k1405 : ∀ (n2 : Nat) (ξ2 : Nat → Nat → Int32) (ρ2 : zRho) (a2 b2 : Nat), zInv n2 ξ2 ρ2 → 2 * (64 - i) ≤ a2 → 42 * (64 - i) ≤ b2 → Zw S (Zc S 40) 9 false 3 zk_L_law (fun r _ => r = some (.int 1)) (1405, [some (.retAddr 4), some (.ref 0), some (.ref 42), some (.int (nI (5 * i)))], [], (a2, b2), zWof n2 ξ2 ρ2) := by
          intro n2 ξ2 ρ2 a2 b2 inv2 ha2 hb2
          refine zr_iinc 1408 (c0 := 5) (L2 := [_, _, _, _]) rfl rfl rfl (by first | exact trivial | exact rfl) (by decide) rfl ?_
          refine zr_goto 18 rfl (by decide) ?_
          rw [show nI (5 * i) + 5 = nI (5 * (i + 1)) from nI_add _ 5]
          exact ih _ (by omega) (i + 1) n2 ξ2 ρ2 a2 b2 rfl inv2 (by omega) (by omega) (by omega)
        refine zr_aload_n 27 rfl rfl rfl trivial ?_
        refine zr_iload_n 28 rfl rfl rfl ?_
        refine zr_ialc 29 rfl rfl (by decide) (nI_clamp (by omega)) (show vp_in (nI (5 * i)) S.1 from vp_in_nI (by omega) (by omega)) ?_
        refine zr_bipush 31 (x := 63) rfl rfl (by decide) ?_
        refine zr_iand 32 rfl rfl ?_
        by_cases s32_0 : ((zct S 4).2 (5 * i) &&& 63) = 0
        · refine zr_tsw_in 212 0 rfl (by rw [s32_0]; decide) (by decide) rfl (by decide) ?_
          exact la_feed hS inv hi2 ha hb k1405
        by_cases s32_1 : ((zct S 4).2 (5 * i) &&& 63) = 1
        · refine zr_tsw_in 275 1 rfl (by rw [s32_1]; decide) (by decide) rfl (by decide) ?_
          exact la_task hS inv hi2 ha hb k1405
        by_cases s32_2 : ((zct S 4).2 (5 * i) &&& 63) = 2
        · refine zr_tsw_in 288 2 rfl (by rw [s32_2]; decide) (by decide) rfl (by decide) ?_
          exact la_set hS inv hi2 ha hb k1405
        by_cases s32_3 : ((zct S 4).2 (5 * i) &&& 63) = 3
        · refine zr_tsw_in 321 3 rfl (by rw [s32_3]; decide) (by decide) rfl (by decide) ?_
          exact la_lawOf hS inv hi2 ha hb k1405
        by_cases s32_4 : ((zct S 4).2 (5 * i) &&& 63) = 4
        · refine zr_tsw_in 344 4 rfl (by rw [s32_4]; decide) (by decide) rfl (by decide) ?_
          exact la_date hS inv hi2 ha hb k1405
        by_cases s32_5 : ((zct S 4).2 (5 * i) &&& 63) = 5
        · refine zr_tsw_in 377 5 rfl (by rw [s32_5]; decide) (by decide) rfl (by decide) ?_
          exact la_dateOf hS inv hi2 ha hb k1405
        by_cases s32_6 : ((zct S 4).2 (5 * i) &&& 63) = 6
        · refine zr_tsw_in 410 6 rfl (by rw [s32_6]; decide) (by decide) rfl (by decide) ?_
          exact la_strike hS inv hi2 ha hb k1405
        by_cases s32_7 : ((zct S 4).2 (5 * i) &&& 63) = 7
        · refine zr_tsw_in 433 7 rfl (by rw [s32_7]; decide) (by decide) rfl (by decide) ?_
          exact la_person hS inv hi2 ha hb k1405
        by_cases s32_8 : ((zct S 4).2 (5 * i) &&& 63) = 8
        · refine zr_tsw_in 476 8 rfl (by rw [s32_8]; decide) (by decide) rfl (by decide) ?_
          exact la_personOf hS inv hi2 ha hb k1405
        by_cases s32_9 : ((zct S 4).2 (5 * i) &&& 63) = 9
        · refine zr_tsw_in 509 9 rfl (by rw [s32_9]; decide) (by decide) rfl (by decide) ?_
          exact la_mind hS inv hi2 ha hb k1405
        by_cases s32_10 : ((zct S 4).2 (5 * i) &&& 63) = 10
        · refine zr_tsw_in 552 10 rfl (by rw [s32_10]; decide) (by decide) rfl (by decide) ?_
          exact la_ill hS inv hi2 ha hb k1405
        by_cases s32_11 : ((zct S 4).2 (5 * i) &&& 63) = 11
        · refine zr_tsw_in 585 11 rfl (by rw [s32_11]; decide) (by decide) rfl (by decide) ?_
          exact la_goal hS inv hi2 ha hb k1405
        by_cases s32_12 : ((zct S 4).2 (5 * i) &&& 63) = 12
        · refine zr_tsw_in 618 12 rfl (by rw [s32_12]; decide) (by decide) rfl (by decide) ?_
          exact la_today hS inv hi2 ha hb k1405
        by_cases s32_13 : ((zct S 4).2 (5 * i) &&& 63) = 13
        · refine zr_tsw_in 631 13 rfl (by rw [s32_13]; decide) (by decide) rfl (by decide) ?_
          exact la_days hS inv hi2 ha hb k1405
        by_cases s32_14 : ((zct S 4).2 (5 * i) &&& 63) = 14
        · refine zr_tsw_in 654 14 rfl (by rw [s32_14]; decide) (by decide) rfl (by decide) ?_
          exact la_heap hS inv hi2 ha hb k1405
        by_cases s32_15 : ((zct S 4).2 (5 * i) &&& 63) = 15
        · refine zr_tsw_in 677 15 rfl (by rw [s32_15]; decide) (by decide) rfl (by decide) ?_
          exact la_when hS inv hi2 ha hb k1405
        by_cases s32_16 : ((zct S 4).2 (5 * i) &&& 63) = 16
        · refine zr_tsw_in 700 16 rfl (by rw [s32_16]; decide) (by decide) rfl (by decide) ?_
          exact la_markOf hS inv hi2 ha hb k1405
        by_cases s32_17 : ((zct S 4).2 (5 * i) &&& 63) = 17
        · refine zr_tsw_in 723 17 rfl (by rw [s32_17]; decide) (by decide) rfl (by decide) ?_
          exact la_late hS inv hi2 ha hb k1405
        by_cases s32_18 : ((zct S 4).2 (5 * i) &&& 63) = 18
        · refine zr_tsw_in 736 18 rfl (by rw [s32_18]; decide) (by decide) rfl (by decide) ?_
          exact la_marks hS inv hi2 ha hb k1405
        by_cases s32_19 : ((zct S 4).2 (5 * i) &&& 63) = 19
        · refine zr_tsw_in 749 19 rfl (by rw [s32_19]; decide) (by decide) rfl (by decide) ?_
          exact la_bestDate hS inv hi2 ha hb k1405
        by_cases s32_20 : ((zct S 4).2 (5 * i) &&& 63) = 20
        · refine zr_tsw_in 762 20 rfl (by rw [s32_20]; decide) (by decide) rfl (by decide) ?_
          exact la_enough hS inv hi2 ha hb k1405
        by_cases s32_21 : ((zct S 4).2 (5 * i) &&& 63) = 21
        · refine zr_tsw_in 795 21 rfl (by rw [s32_21]; decide) (by decide) rfl (by decide) ?_
          exact la_patience hS inv hi2 ha hb k1405
        by_cases s32_22 : ((zct S 4).2 (5 * i) &&& 63) = 22
        · refine zr_tsw_in 818 22 rfl (by rw [s32_22]; decide) (by decide) rfl (by decide) ?_
          exact la_worst hS inv hi2 ha hb k1405
        by_cases s32_23 : ((zct S 4).2 (5 * i) &&& 63) = 23
        · refine zr_tsw_in 841 23 rfl (by rw [s32_23]; decide) (by decide) rfl (by decide) ?_
          exact la_sooner hS inv hi2 ha hb k1405
        by_cases s32_24 : ((zct S 4).2 (5 * i) &&& 63) = 24
        · refine zr_tsw_in 854 24 rfl (by rw [s32_24]; decide) (by decide) rfl (by decide) ?_
          exact la_seed hS inv hi2 ha hb k1405
        by_cases s32_25 : ((zct S 4).2 (5 * i) &&& 63) = 25
        · refine zr_tsw_in 877 25 rfl (by rw [s32_25]; decide) (by decide) rfl (by decide) ?_
          exact la_lot hS inv hi2 ha hb k1405
        by_cases s32_26 : ((zct S 4).2 (5 * i) &&& 63) = 26
        · refine zr_tsw_in 900 26 rfl (by rw [s32_26]; decide) (by decide) rfl (by decide) ?_
          exact la_prove hS inv hi2 ha hb k1405
        by_cases s32_27 : ((zct S 4).2 (5 * i) &&& 63) = 27
        · refine zr_tsw_in 933 27 rfl (by rw [s32_27]; decide) (by decide) rfl (by decide) ?_
          exact la_row hS inv hi2 ha hb k1405
        by_cases s32_28 : ((zct S 4).2 (5 * i) &&& 63) = 28
        · refine zr_tsw_in 966 28 rfl (by rw [s32_28]; decide) (by decide) rfl (by decide) ?_
          exact la_alterRow hS inv hi2 ha hb k1405
        by_cases s32_29 : ((zct S 4).2 (5 * i) &&& 63) = 29
        · refine zr_tsw_in 1009 29 rfl (by rw [s32_29]; decide) (by decide) rfl (by decide) ?_
          exact la_judge hS inv hi2 ha hb k1405
        by_cases s32_30 : ((zct S 4).2 (5 * i) &&& 63) = 30
        · refine zr_tsw_in 1032 30 rfl (by rw [s32_30]; decide) (by decide) rfl (by decide) ?_
          exact la_minds hS inv hi2 ha hb k1405
        by_cases s32_31 : ((zct S 4).2 (5 * i) &&& 63) = 31
        · refine zr_tsw_in 1085 31 rfl (by rw [s32_31]; decide) (by decide) rfl (by decide) ?_
          exact la_sheet hS inv hi2 ha hb k1405
        by_cases s32_32 : ((zct S 4).2 (5 * i) &&& 63) = 32
        · refine zr_tsw_in 1128 32 rfl (by rw [s32_32]; decide) (by decide) rfl (by decide) ?_
          exact la_put hS inv hi2 ha hb k1405
        by_cases s32_33 : ((zct S 4).2 (5 * i) &&& 63) = 33
        · refine zr_tsw_in 1171 33 rfl (by rw [s32_33]; decide) (by decide) rfl (by decide) ?_
          exact la_item hS inv hi2 ha hb k1405
        by_cases s32_34 : ((zct S 4).2 (5 * i) &&& 63) = 34
        · refine zr_tsw_in 1214 34 rfl (by rw [s32_34]; decide) (by decide) rfl (by decide) ?_
          exact la_shelf hS inv hi2 ha hb k1405
        by_cases s32_35 : ((zct S 4).2 (5 * i) &&& 63) = 35
        · refine zr_tsw_in 1257 35 rfl (by rw [s32_35]; decide) (by decide) rfl (by decide) ?_
          exact la_taken hS inv hi2 ha hb k1405
        by_cases s32_36 : ((zct S 4).2 (5 * i) &&& 63) = 36
        · refine zr_tsw_in 1290 36 rfl (by rw [s32_36]; decide) (by decide) rfl (by decide) ?_
          exact la_act hS inv hi2 ha hb k1405
        by_cases s32_37 : ((zct S 4).2 (5 * i) &&& 63) = 37
        · refine zr_tsw_in 1333 37 rfl (by rw [s32_37]; decide) (by decide) rfl (by decide) ?_
          exact la_trace hS inv hi2 ha hb k1405
        by_cases s32_38 : ((zct S 4).2 (5 * i) &&& 63) = 38
        · refine zr_tsw_in 1356 38 rfl (by rw [s32_38]; decide) (by decide) rfl (by decide) ?_
          exact la_many hS inv hi2 ha hb k1405
        by_cases s32_39 : ((zct S 4).2 (5 * i) &&& 63) = 39
        · refine zr_tsw_in 1379 39 rfl (by rw [s32_39]; decide) (by decide) rfl (by decide) ?_
          exact la_keep hS inv hi2 ha hb k1405
        by_cases s32_40 : ((zct S 4).2 (5 * i) &&& 63) = 40
        · refine zr_tsw_in 1392 40 rfl (by rw [s32_40]; decide) (by decide) rfl (by decide) ?_
          exact la_again hS inv hi2 ha hb k1405
        refine zr_tsw_out 1405 rfl (by have q0 := zne_i s32_0; have q1 := zne_i s32_1; have q2 := zne_i s32_2; have q3 := zne_i s32_3; have q4 := zne_i s32_4; have q5 := zne_i s32_5; have q6 := zne_i s32_6; have q7 := zne_i s32_7; have q8 := zne_i s32_8; have q9 := zne_i s32_9; have q10 := zne_i s32_10; have q11 := zne_i s32_11; have q12 := zne_i s32_12; have q13 := zne_i s32_13; have q14 := zne_i s32_14; have q15 := zne_i s32_15; have q16 := zne_i s32_16; have q17 := zne_i s32_17; have q18 := zne_i s32_18; have q19 := zne_i s32_19; have q20 := zne_i s32_20; have q21 := zne_i s32_21; have q22 := zne_i s32_22; have q23 := zne_i s32_23; have q24 := zne_i s32_24; have q25 := zne_i s32_25; have q26 := zne_i s32_26; have q27 := zne_i s32_27; have q28 := zne_i s32_28; have q29 := zne_i s32_29; have q30 := zne_i s32_30; have q31 := zne_i s32_31; have q32 := zne_i s32_32; have q33 := zne_i s32_33; have q34 := zne_i s32_34; have q35 := zne_i s32_35; have q36 := zne_i s32_36; have q37 := zne_i s32_37; have q38 := zne_i s32_38; have q39 := zne_i s32_39; have q40 := zne_i s32_40; rw [show (0 : Int32).toInt = 0 by decide] at q0; rw [show (1 : Int32).toInt = 1 by decide] at q1; rw [show (2 : Int32).toInt = 2 by decide] at q2; rw [show (3 : Int32).toInt = 3 by decide] at q3; rw [show (4 : Int32).toInt = 4 by decide] at q4; rw [show (5 : Int32).toInt = 5 by decide] at q5; rw [show (6 : Int32).toInt = 6 by decide] at q6; rw [show (7 : Int32).toInt = 7 by decide] at q7; rw [show (8 : Int32).toInt = 8 by decide] at q8; rw [show (9 : Int32).toInt = 9 by decide] at q9; rw [show (10 : Int32).toInt = 10 by decide] at q10; rw [show (11 : Int32).toInt = 11 by decide] at q11; rw [show (12 : Int32).toInt = 12 by decide] at q12; rw [show (13 : Int32).toInt = 13 by decide] at q13; rw [show (14 : Int32).toInt = 14 by decide] at q14; rw [show (15 : Int32).toInt = 15 by decide] at q15; rw [show (16 : Int32).toInt = 16 by decide] at q16; rw [show (17 : Int32).toInt = 17 by decide] at q17; rw [show (18 : Int32).toInt = 18 by decide] at q18; rw [show (19 : Int32).toInt = 19 by decide] at q19; rw [show (20 : Int32).toInt = 20 by decide] at q20; rw [show (21 : Int32).toInt = 21 by decide] at q21; rw [show (22 : Int32).toInt = 22 by decide] at q22; rw [show (23 : Int32).toInt = 23 by decide] at q23; rw [show (24 : Int32).toInt = 24 by decide] at q24; rw [show (25 : Int32).toInt = 25 by decide] at q25; rw [show (26 : Int32).toInt = 26 by decide] at q26; rw [show (27 : Int32).toInt = 27 by decide] at q27; rw [show (28 : Int32).toInt = 28 by decide] at q28; rw [show (29 : Int32).toInt = 29 by decide] at q29; rw [show (30 : Int32).toInt = 30 by decide] at q30; rw [show (31 : Int32).toInt = 31 by decide] at q31; rw [show (32 : Int32).toInt = 32 by decide] at q32; rw [show (33 : Int32).toInt = 33 by decide] at q33; rw [show (34 : Int32).toInt = 34 by decide] at q34; rw [show (35 : Int32).toInt = 35 by decide] at q35; rw [show (36 : Int32).toInt = 36 by decide] at q36; rw [show (37 : Int32).toInt = 37 by decide] at q37; rw [show (38 : Int32).toInt = 38 by decide] at q38; rw [show (39 : Int32).toInt = 39 by decide] at q39; rw [show (40 : Int32).toInt = 40 by decide] at q40; omega) (by decide) ?_
        exact k1405 n ξ ρ a b inv (by omega) (by omega)
  exact fun i n ξ ρ a b inv h1 h2 h3 => key _ i n ξ ρ a b rfl inv h1 h2 h3
set_option maxRecDepth 20000 in
set_option maxHeartbeats 4000000 in
theorem zlaw : ∀ S : Nat × (Nat → Int32), S.1 ≤ 320 → Zw S (Zc S 40) 9 false 3 zk_L_law (fun r _ => r = some (.int 1)) (0, [some (.retAddr 4), none, none, none], [], (100000, 1000000), (0, fun _ => .inr (99, []))) := by
  intro S hS
  show Zw S (Zc S 40) 9 false 3 zk_L_law (fun r _ => r = some (.int 1)) (0, [some (.retAddr 4), none, none, none], [], (100000, 1000000), zWl [])
  refine zn_new 3 0 (u2 := (99999, 999989)) (l2 := [zob 5 [.null, .null, .null, .int 0, .null, .null, .int 0, .null, .null, .null, .null]]) rfl rfl rfl rfl (Nat.le_of_ble_eq_true rfl) (Nat.le_of_ble_eq_true rfl) rfl rfl rfl ?_
  refine zr_dup 4 rfl rfl rfl ?_
  refine zr_calli 7 (As := []) (u2 := (99958, 999472)) rfl rfl rfl rfl rfl rfl rfl (Nat.le_of_ble_eq_true rfl) (Nat.le_of_ble_eq_true rfl) (Nat.le_of_ble_eq_true rfl) (n_lastdays (d := 37)) rfl (fun v2 w2 hz => ?_)
  obtain ⟨rfl, rfl⟩ := hz
  refine zr_astore_n 8 (L2 := [_, _, _, _]) rfl rfl trivial (Nat.le_of_ble_eq_true rfl) (by first | exact trivial | exact rfl) rfl ?_
  refine zn_new 11 42 (u2 := (99957, 999421)) (l2 := [zob 5 [.ref 1, .ref 12, .ref 23, .int 0, .ref 34, .ref 36, .int 0, .ref 37, .ref 38, .ref 39, .ref 40], zob 0 [.ref 2, .ref 3, .ref 4, .ref 5, .int 0, .int 0, .int 0, .int 1], zai 5 (va_cpy (zct S 2).2 (fun _ => 0) 0 0 5), zai 3 (fun _ => 0), zai 3 (fun _ => 0), zaq 3 6 (va_up (va_up (va_up (va_up (va_up (va_up (fun _ => none) 0 (some 6)) 1 (some 7)) 2 (some 8)) 3 (some 9)) 4 (some 10)) 5 (some 11)), zob 1 [.int 0, .int 0, .int 0, .int 0, .int 0, .int 0, .int 0], zob 1 [.int 0, .int 0, .int 0, .int 0, .int 0, .int 0, .int 0], zob 1 [.int 0, .int 0, .int 0, .int 0, .int 0, .int 0, .int 0], zob 1 [.int 0, .int 0, .int 0, .int 0, .int 0, .int 0, .int 0], zob 1 [.int 0, .int 0, .int 0, .int 0, .int 0, .int 0, .int 0], zob 1 [.int 0, .int 0, .int 0, .int 0, .int 0, .int 0, .int 0], zob 0 [.ref 13, .ref 14, .ref 15, .ref 16, .int 0, .int 0, .int 0, .int 1], zai 5 (va_cpy (zct S 2).2 (fun _ => 0) 0 0 5), zai 3 (fun _ => 0), zai 3 (fun _ => 0), zaq 3 6 (va_up (va_up (va_up (va_up (va_up (va_up (fun _ => none) 0 (some 17)) 1 (some 18)) 2 (some 19)) 3 (some 20)) 4 (some 21)) 5 (some 22)), zob 1 [.int 0, .int 0, .int 0, .int 0, .int 0, .int 0, .int 0], zob 1 [.int 0, .int 0, .int 0, .int 0, .int 0, .int 0, .int 0], zob 1 [.int 0, .int 0, .int 0, .int 0, .int 0, .int 0, .int 0], zob 1 [.int 0, .int 0, .int 0, .int 0, .int 0, .int 0, .int 0], zob 1 [.int 0, .int 0, .int 0, .int 0, .int 0, .int 0, .int 0], zob 1 [.int 0, .int 0, .int 0, .int 0, .int 0, .int 0, .int 0], zob 0 [.ref 24, .ref 25, .ref 26, .ref 27, .int 0, .int 0, .int 0, .int 1], zai 5 (va_cpy (zct S 2).2 (fun _ => 0) 0 0 5), zai 3 (fun _ => 0), zai 3 (fun _ => 0), zaq 3 6 (va_up (va_up (va_up (va_up (va_up (va_up (fun _ => none) 0 (some 28)) 1 (some 29)) 2 (some 30)) 3 (some 31)) 4 (some 32)) 5 (some 33)), zob 1 [.int 0, .int 0, .int 0, .int 0, .int 0, .int 0, .int 0], zob 1 [.int 0, .int 0, .int 0, .int 0, .int 0, .int 0, .int 0], zob 1 [.int 0, .int 0, .int 0, .int 0, .int 0, .int 0, .int 0], zob 1 [.int 0, .int 0, .int 0, .int 0, .int 0, .int 0, .int 0], zob 1 [.int 0, .int 0, .int 0, .int 0, .int 0, .int 0, .int 0], zob 1 [.int 0, .int 0, .int 0, .int 0, .int 0, .int 0, .int 0], zob 3 [.ref 35, .int 0, .null, .int 0, .int 0, .int 0, .int 0, .int 0], zab 200 (fun _ => 0), zai 60 (fun _ => 0), zaq 4 4 (fun _ => none), zaq 4 4 (fun _ => none), zai 4 (upd (upd (upd (upd (fun _ => 0) 0 (-1)) 1 (-1)) 2 (-1)) 3 (-1)), zob 4 [.ref 41, .int 0, .int 0, .int 0, .int 0, .int 0], zai 30 (fun _ => 0), zob 6 [.null, .int 0, .null, .null, .int 0, .null, .null, .null, .null, .null, .int 0, .int 0, .null, .int 0, .int 0, .int 0, .int 0, .long 0, .int 0, .int 0, .int 0, .int 0, .null, .null, .null, .null, .null, .null, .null, .int 0, .int 0, .null, .null, .int 0, .int 0, .null, .null, .null, .null, .null, .null, .int 0, .int 0, .int 0, .null, .int 0, .int 0, .int 0, .null, .int 0, .null]]) rfl rfl rfl rfl (Nat.le_of_ble_eq_true rfl) (Nat.le_of_ble_eq_true rfl) rfl rfl rfl ?_
  refine zr_dup 12 rfl rfl rfl ?_
  refine zr_calli 15 (As := []) (u2 := (99930, 998708)) rfl rfl rfl rfl rfl rfl rfl (Nat.le_of_ble_eq_true rfl) (Nat.le_of_ble_eq_true rfl) (Nat.le_of_ble_eq_true rfl) (n_model (d := 39)) rfl (fun v2 w2 hz => ?_)
  obtain ⟨rfl, rfl⟩ := hz
  refine zr_astore_n 16 (L2 := [_, _, _, _]) rfl rfl trivial (Nat.le_of_ble_eq_true rfl) (by first | exact trivial | exact rfl) rfl ?_
  refine zr_iconst 17 (x := 0) rfl rfl (by decide) ?_
  refine zr_istore_n 18 (L2 := [_, _, _, _]) rfl rfl (Nat.le_of_ble_eq_true rfl) (by first | exact trivial | exact rfl) rfl ?_
  rw [zflat0 S]
  exact zlaw_loop S hS 0 70 (zxi0 S) zrho0 _ _ (zinv0 S) (by omega) (by decide) (by decide)
