set_option maxRecDepth 20000 in
set_option maxHeartbeats 1000000 in
theorem c_addDate {S : Nat × (Nat → Int32)} {d n : Nat} {ξ : Nat → Nat → Int32} {ρ : zRho} {b D : Nat} (hb : zisC b) (hD : ξ b 4 = nI D) (h3 : D < 3) (day part : Int32) : Zc S (d + 1) jX0_addDate [.ref b, .int day, .int part] (zWof n ξ ρ) (fun r w => r = none ∧ ∃ ξ2, w = zWof n ξ2 ρ ∧ (ξ2 (b + 2), ξ2 (b + 3)) = zaddF day part D (ξ (b + 2), ξ (b + 3)) ∧ ξ2 b 4 = nI (D + 1) ∧ (∀ k, k ≠ 4 → ξ2 b k = ξ b k) ∧ ∀ a, a ≠ b → a ≠ b + 2 → a ≠ b + 3 → ξ2 a = ξ a) := by
  refine Zc_in (q := (0, 0, 0, 2, 4, 0, 0, zk_X0_addDate)) rfl (Nat.le_of_ble_eq_true rfl) (L := [_, _, _, _]) rfl ?_
  have m1 : b + 2 ≠ b + 3 := by omega
  have m2 : b + 3 ≠ b + 2 := by omega
  have m3 : b + 2 ≠ b := by omega
  have m4 : b + 3 ≠ b := by omega
  have m5 : b ≠ b + 2 := by omega
  have m6 : b ≠ b + 3 := by omega
  have key : ∀ (k : Nat) (i : Nat) (ξ1 : Nat → Nat → Int32), i = k → i ≤ D → (∀ a, a ≠ b + 2 → a ≠ b + 3 → ξ1 a = ξ a) → zaddF day part D (ξ (b + 2), ξ (b + 3)) = zaddF day part i (ξ1 (b + 2), ξ1 (b + 3)) →  Zw S (Zc S d) 0 false 0 zk_X0_addDate (fun r w => r = none ∧ ∃ ξ2, w = zWof n ξ2 ρ ∧ (ξ2 (b + 2), ξ2 (b + 3)) = zaddF day part D (ξ (b + 2), ξ (b + 3)) ∧ ξ2 b 4 = nI (D + 1) ∧ (∀ k, k ≠ 4 → ξ2 b k = ξ b k) ∧ ∀ a, a ≠ b → a ≠ b + 2 → a ≠ b + 3 → ξ2 a = ξ a) (5, [some (.ref b), some (.int day), some (.int part), some (.int (nI i))], [], (0, 0), zWof n ξ1 ρ) := by
    intro k
    induction k using Nat.strongRecOn with
    | ind k ih =>
      intro i ξ1 hk h2 f1 e3
      refine zr_iload_n 6 rfl rfl rfl ?_
      refine zr_if_le 55 9 rfl rfl (by decide) (fun c6z => ?_) (fun c6z => ?_)
      · have c6p : i = 0 := by
          rcases Nat.eq_zero_or_pos i with h | h
          · exact h
          · exact absurd c6z (nI_nle h (by omega))
        refine zr_aload_n 56 rfl rfl rfl trivial ?_
        refine zr_getf 59 rfl rfl rfl (zc_co hb) rfl ?_
        refine zr_iload_n 60 rfl rfl rfl ?_
        refine zr_iload_n 61 rfl rfl rfl ?_
        refine zr_iast 62 rfl rfl (zc_c2 hb) (nI_clamp (by omega)) (vp_in_nI (by omega) (by omega)) (zs_c2 hb) ?_
        refine zr_aload_n 63 rfl rfl rfl trivial ?_
        refine zr_getf 66 rfl rfl rfl (zc_co hb) rfl ?_
        refine zr_iload_n 67 rfl rfl rfl ?_
        refine zr_iload_n 68 rfl rfl rfl ?_
        refine zr_iast 69 rfl rfl (zc_c3 hb) (nI_clamp (by omega)) (vp_in_nI (by omega) (by omega)) (zs_c3 hb) ?_
        refine zr_aload_n 70 rfl rfl rfl trivial ?_
        refine zr_dup 71 rfl rfl rfl ?_
        refine zr_getf 74 rfl rfl rfl (zc_co hb) rfl ?_
        refine zr_iconst 75 (x := 1) rfl rfl (by decide) ?_
        refine zr_iadd 76 rfl rfl ?_
        refine zr_putf 79 rfl rfl rfl (zc_co hb) (Nat.le_of_ble_eq_true rfl) rfl trivial (fun h => by cases h) (zs_co hb 4 (by decide) _) ?_
        refine zr_ret rfl rfl ?_
        refine ⟨rfl, _, rfl, ?_, ?_, fun k hk => ?_, fun a q1 q2 q3 => ?_⟩
        · rw [e3, zun m3, zun m1, zup, zun m4, zup, zun m2]
          subst c6p
          rfl
        · rw [zu_same, zun m6, zun m5, f1 b m5 m6, hD, nI_1]
        · rw [zu_ne (Or.inr hk), zun m6, zun m5, f1 b m5 m6]
        · rw [zun q1, zun q3, zun q2]
          exact f1 a q2 q3
      · have c6p : ¬ i = 0 := fun h => c6z (by rw [h]; decide)
        obtain ⟨i2, rfl⟩ : ∃ z, i = z + 1 := ⟨i - 1, by have := c6p; omega⟩
        refine zr_aload_n 10 rfl rfl rfl trivial ?_
        refine zr_getf 13 rfl rfl rfl (zc_co hb) rfl ?_
        refine zr_iload_n 14 rfl rfl rfl ?_
        refine zr_iconst 15 (x := 1) rfl rfl (by decide) ?_
        refine zr_isub 16 rfl rfl ?_
        rw [nI_pred]
        refine zr_iald 17 rfl rfl (zc_c2 hb) (nI_clamp (by omega)) (vp_in_nI (by omega) (by omega)) ?_
        refine zr_iload_n 18 rfl rfl rfl ?_
        refine zr_icmp_le 55 21 rfl rfl (by decide) (fun c18z => ?_) (fun c18z => ?_)
        · refine zr_aload_n 56 rfl rfl rfl trivial ?_
          refine zr_getf 59 rfl rfl rfl (zc_co hb) rfl ?_
          refine zr_iload_n 60 rfl rfl rfl ?_
          refine zr_iload_n 61 rfl rfl rfl ?_
          refine zr_iast 62 rfl rfl (zc_c2 hb) (nI_clamp (by omega)) (vp_in_nI (by omega) (by omega)) (zs_c2 hb) ?_
          refine zr_aload_n 63 rfl rfl rfl trivial ?_
          refine zr_getf 66 rfl rfl rfl (zc_co hb) rfl ?_
          refine zr_iload_n 67 rfl rfl rfl ?_
          refine zr_iload_n 68 rfl rfl rfl ?_
          refine zr_iast 69 rfl rfl (zc_c3 hb) (nI_clamp (by omega)) (vp_in_nI (by omega) (by omega)) (zs_c3 hb) ?_
          refine zr_aload_n 70 rfl rfl rfl trivial ?_
          refine zr_dup 71 rfl rfl rfl ?_
          refine zr_getf 74 rfl rfl rfl (zc_co hb) rfl ?_
          refine zr_iconst 75 (x := 1) rfl rfl (by decide) ?_
          refine zr_iadd 76 rfl rfl ?_
          refine zr_putf 79 rfl rfl rfl (zc_co hb) (Nat.le_of_ble_eq_true rfl) rfl trivial (fun h => by cases h) (zs_co hb 4 (by decide) _) ?_
          refine zr_ret rfl rfl ?_
          refine ⟨rfl, _, rfl, ?_, ?_, fun k hk => ?_, fun a q1 q2 q3 => ?_⟩
          · rw [e3, zun m3, zun m1, zup, zun m4, zup, zun m2]
            rw [zaddF, if_pos c18z]
          · rw [zu_same, zun m6, zun m5, f1 b m5 m6, hD, nI_1]
          · rw [zu_ne (Or.inr hk), zun m6, zun m5, f1 b m5 m6]
          · rw [zun q1, zun q3, zun q2]
            exact f1 a q2 q3
        · refine zr_aload_n 22 rfl rfl rfl trivial ?_
          refine zr_getf 25 rfl rfl rfl (zc_co hb) rfl ?_
          refine zr_iload_n 26 rfl rfl rfl ?_
          refine zr_aload_n 27 rfl rfl rfl trivial ?_
          refine zr_getf 30 rfl rfl rfl (zc_co hb) rfl ?_
          refine zr_iload_n 31 rfl rfl rfl ?_
          refine zr_iconst 32 (x := 1) rfl rfl (by decide) ?_
          refine zr_isub 33 rfl rfl ?_
          rw [nI_pred]
          refine zr_iald 34 rfl rfl (zc_c2 hb) (nI_clamp (by omega)) (vp_in_nI (by omega) (by omega)) ?_
          refine zr_iast 35 rfl rfl (zc_c2 hb) (nI_clamp (by omega)) (vp_in_nI (by omega) (by omega)) (zs_c2 hb) ?_
          refine zr_aload_n 36 rfl rfl rfl trivial ?_
          refine zr_getf 39 rfl rfl rfl (zc_co hb) rfl ?_
          refine zr_iload_n 40 rfl rfl rfl ?_
          refine zr_aload_n 41 rfl rfl rfl trivial ?_
          refine zr_getf 44 rfl rfl rfl (zc_co hb) rfl ?_
          refine zr_iload_n 45 rfl rfl rfl ?_
          refine zr_iconst 46 (x := 1) rfl rfl (by decide) ?_
          refine zr_isub 47 rfl rfl ?_
          rw [nI_pred]
          refine zr_iald 48 rfl rfl (zc_c3 hb) (nI_clamp (by omega)) (vp_in_nI (by omega) (by omega)) ?_
          refine zr_iast 49 rfl rfl (zc_c3 hb) (nI_clamp (by omega)) (vp_in_nI (by omega) (by omega)) (zs_c3 hb) ?_
          refine zr_iinc 52 (c0 := (-1)) (L2 := [_, _, _, _]) rfl rfl rfl (by first | exact trivial | exact rfl) (by decide) rfl ?_
          rw [pk_m1]
          refine zr_goto 5 rfl (by decide) ?_
          refine ih i2 (by omega) i2 _ rfl (by omega) (fun a q2 q3 => by rw [zun q3, zun q2]; exact f1 a q2 q3) ?_
          rw [e3, zaddF, if_neg c18z, zup, zun m1, zup, zun m2]
  refine zr_aload_n 1 rfl rfl rfl trivial ?_
  refine zr_getf 4 rfl rfl rfl (zc_co hb) rfl ?_
  refine zr_istore_n 5 (L2 := [_, _, _, _]) rfl rfl (Nat.le_of_ble_eq_true rfl) (by first | exact trivial | exact rfl) rfl ?_
  rw [hD]
  exact key D D ξ rfl (by omega) (fun _ _ _ => rfl) rfl
set_option maxRecDepth 20000 in
set_option maxHeartbeats 1000000 in
theorem c_removeDate {S : Nat × (Nat → Int32)} {d n : Nat} {ξ : Nat → Nat → Int32} {ρ : zRho} {b D gn : Nat} (hb : zisC b) (hD : ξ b 4 = nI D) (h3 : D ≤ 3) (hg : gn < D) : Zc S (d + 1) jX0_removeDate [.ref b, .int (nI gn)] (zWof n ξ ρ) (fun r w => r = none ∧ ∃ ξ2, w = zWof n ξ2 ρ ∧ ξ2 (b + 2) = zrmF (D - 1 - gn) gn (ξ (b + 2)) ∧ ξ2 (b + 3) = zrmF (D - 1 - gn) gn (ξ (b + 3)) ∧ ξ2 b 4 = nI (D - 1) ∧ (∀ k, k ≠ 4 → ξ2 b k = ξ b k) ∧ ∀ a, a ≠ b → a ≠ b + 2 → a ≠ b + 3 → ξ2 a = ξ a) := by
  refine Zc_in (q := (0, 0, 0, 1, 3, 0, 0, zk_X0_removeDate)) rfl (Nat.le_of_ble_eq_true rfl) (L := [_, _, _]) rfl ?_
  have m1 : b + 2 ≠ b + 3 := by omega
  have m2 : b + 3 ≠ b + 2 := by omega
  have m3 : b + 2 ≠ b := by omega
  have m4 : b + 3 ≠ b := by omega
  have m5 : b ≠ b + 2 := by omega
  have m6 : b ≠ b + 3 := by omega
  have key : ∀ (k : Nat) (i : Nat) (ξ1 : Nat → Nat → Int32), D - i = k → i < D → (∀ a, a ≠ b + 2 → a ≠ b + 3 → ξ1 a = ξ a) → zrmF (D - 1 - gn) gn (ξ (b + 2)) = zrmF (D - 1 - i) i (ξ1 (b + 2)) → zrmF (D - 1 - gn) gn (ξ (b + 3)) = zrmF (D - 1 - i) i (ξ1 (b + 3)) →  Zw S (Zc S d) 0 false 0 zk_X0_removeDate (fun r w => r = none ∧ ∃ ξ2, w = zWof n ξ2 ρ ∧ ξ2 (b + 2) = zrmF (D - 1 - gn) gn (ξ (b + 2)) ∧ ξ2 (b + 3) = zrmF (D - 1 - gn) gn (ξ (b + 3)) ∧ ξ2 b 4 = nI (D - 1) ∧ (∀ k, k ≠ 4 → ξ2 b k = ξ b k) ∧ ∀ a, a ≠ b → a ≠ b + 2 → a ≠ b + 3 → ξ2 a = ξ a) (4, [some (.ref b), some (.int (nI gn)), some (.int (nI (i + 1)))], [], (0, 0), zWof n ξ1 ρ) := by
    intro k
    induction k using Nat.strongRecOn with
    | ind k ih =>
      intro i ξ1 hk h2 f1 e2 e3
      have hD1 : ξ1 b 4 = nI D := by rw [f1 b m5 m6]; exact hD
      refine zr_iload_n 5 rfl rfl rfl ?_
      refine zr_aload_n 6 rfl rfl rfl trivial ?_
      refine zr_getf 9 rfl rfl rfl (zc_co hb) rfl ?_
      refine zr_icmp_ge 46 12 rfl rfl (by decide) (fun c9z => ?_) (fun c9z => ?_)
      · rw [hD1, nI_leI (by omega) (by omega)] at c9z
        refine zr_aload_n 47 rfl rfl rfl trivial ?_
        refine zr_dup 48 rfl rfl rfl ?_
        refine zr_getf 51 rfl rfl rfl (zc_co hb) rfl ?_
        refine zr_iconst 52 (x := 1) rfl rfl (by decide) ?_
        refine zr_isub 53 rfl rfl ?_
        refine zr_putf 56 rfl rfl rfl (zc_co hb) (Nat.le_of_ble_eq_true rfl) rfl trivial (fun h => by cases h) (zs_co hb 4 (by decide) _) ?_
        refine zr_ret rfl rfl ?_
        refine ⟨rfl, _, rfl, ?_, ?_, ?_, fun k hk => ?_, fun a q1 q2 q3 => ?_⟩
        · rw [zun m3, e2, show D - 1 - i = 0 by omega, zrmF]
        · rw [zun m4, e3, show D - 1 - i = 0 by omega, zrmF]
        · rw [zu_same, hD1, show D = D - 1 + 1 by omega, nI_pred, Nat.add_sub_cancel]
        · rw [zu_ne (Or.inr hk), f1 b m5 m6]
        · rw [zun q1]
          exact f1 a q2 q3
      · rw [hD1, nI_leI (by omega) (by omega)] at c9z
        refine zr_aload_n 13 rfl rfl rfl trivial ?_
        refine zr_getf 16 rfl rfl rfl (zc_co hb) rfl ?_
        refine zr_iload_n 17 rfl rfl rfl ?_
        refine zr_iconst 18 (x := 1) rfl rfl (by decide) ?_
        refine zr_isub 19 rfl rfl ?_
        rw [nI_pred]
        refine zr_aload_n 20 rfl rfl rfl trivial ?_
        refine zr_getf 23 rfl rfl rfl (zc_co hb) rfl ?_
        refine zr_iload_n 24 rfl rfl rfl ?_
        refine zr_iald 25 rfl rfl (zc_c2 hb) (nI_clamp (by omega)) (vp_in_nI (by omega) (by omega)) ?_
        refine zr_iast 26 rfl rfl (zc_c2 hb) (nI_clamp (by omega)) (vp_in_nI (by omega) (by omega)) (zs_c2 hb) ?_
        refine zr_aload_n 27 rfl rfl rfl trivial ?_
        refine zr_getf 30 rfl rfl rfl (zc_co hb) rfl ?_
        refine zr_iload_n 31 rfl rfl rfl ?_
        refine zr_iconst 32 (x := 1) rfl rfl (by decide) ?_
        refine zr_isub 33 rfl rfl ?_
        rw [nI_pred]
        refine zr_aload_n 34 rfl rfl rfl trivial ?_
        refine zr_getf 37 rfl rfl rfl (zc_co hb) rfl ?_
        refine zr_iload_n 38 rfl rfl rfl ?_
        refine zr_iald 39 rfl rfl (zc_c3 hb) (nI_clamp (by omega)) (vp_in_nI (by omega) (by omega)) ?_
        refine zr_iast 40 rfl rfl (zc_c3 hb) (nI_clamp (by omega)) (vp_in_nI (by omega) (by omega)) (zs_c3 hb) ?_
        refine zr_iinc 43 (c0 := 1) (L2 := [_, _, _]) rfl rfl rfl (by first | exact trivial | exact rfl) (by decide) rfl ?_
        refine zr_goto 4 rfl (by decide) ?_
        rw [nI_1]
        refine ih _ (by omega) (i + 1) _ rfl (by omega) (fun a q2 q3 => by rw [zun q3, zun q2]; exact f1 a q2 q3) ?_ ?_
        · rw [e2, show D - 1 - i = D - 1 - (i + 1) + 1 by omega, zrmF, zun m1, zup]
        · rw [e3, show D - 1 - i = D - 1 - (i + 1) + 1 by omega, zrmF, zup, zun m2]
  refine zr_iload_n 1 rfl rfl rfl ?_
  refine zr_iconst 2 (x := 1) rfl rfl (by decide) ?_
  refine zr_iadd 3 rfl rfl ?_
  refine zr_istore_n 4 (L2 := [_, _, _]) rfl rfl (Nat.le_of_ble_eq_true rfl) (by first | exact trivial | exact rfl) rfl ?_
  rw [nI_1]
  exact key _ gn ξ rfl (by omega) (fun _ _ _ => rfl) rfl rfl
set_option maxRecDepth 20000 in
set_option maxHeartbeats 1000000 in
theorem c_addPerson {S : Nat × (Nat → Int32)} {d n : Nat} {ξ : Nat → Nat → Int32} {ρ : zRho} {b M : Nat} (hb : zisC b) (hM : ξ b 5 = nI M) (h6 : M < 6) (kd a wk : Int32) : Zc S (d + 2) jX0_addPerson [.ref b, .int kd, .int a, .int wk] (zWof n ξ ρ) (fun r w => r = some (.int (nI M)) ∧ ∃ ξ2, w = zWof n ξ2 ρ ∧ ξ2 (b + 5 + M) 0 = kd ∧ ξ2 (b + 5 + M) 1 = a ∧ ξ2 (b + 5 + M) 2 = wk ∧ ξ2 (b + 5 + M) 3 = 0 ∧ ξ2 (b + 5 + M) 4 = 0 ∧ ξ2 (b + 5 + M) 5 = -9 ∧ ξ2 (b + 5 + M) 6 = 0 ∧ ξ2 b 5 = nI (M + 1) ∧ (∀ k, k ≠ 5 → ξ2 b k = ξ b k) ∧ ∀ c, c ≠ b → c ≠ b + 5 + M → ξ2 c = ξ c) := by
  refine Zc_in (q := (0, 0, 1, 3, 4, 0, 0, zk_X0_addPerson)) rfl (Nat.le_of_ble_eq_true rfl) (L := [_, _, _, _]) rfl ?_
  refine zr_aload_n 1 rfl rfl rfl trivial ?_
  refine zr_getf 4 rfl rfl rfl (zc_co hb) rfl ?_
  refine zr_aload_n 5 rfl rfl rfl trivial ?_
  refine zr_getf 8 rfl rfl rfl (zc_co hb) rfl ?_
  rw [hM]
  refine zr_aald 9 rfl rfl (zc_c4 hb) (by decide) (nI_clamp (by omega)) (vp_in_nI (by omega) (by omega)) (zrf_ps (by omega)) ?_
  refine zr_iload_n 10 rfl rfl rfl ?_
  refine zr_iload_n 11 rfl rfl rfl ?_
  refine zr_iload_n 12 rfl rfl rfl ?_
  refine zr_callv 15 (As := [_, _, _]) (u2 := (0, 0)) rfl rfl rfl rfl rfl rfl rfl (Nat.le_of_ble_eq_true rfl) (Nat.le_of_ble_eq_true rfl) (Nat.le_of_ble_eq_true rfl) (zc_pe (zP hb (by omega))) (c_start (zP hb (by omega)) _ _ _) rfl (fun v2 w2 h12z => ?_)
  obtain ⟨rfl, rfl⟩ := h12z
  refine zr_aload_n 16 rfl rfl rfl trivial ?_
  refine zr_dup 17 rfl rfl rfl ?_
  refine zr_getf 20 rfl rfl rfl (zc_co hb) rfl ?_
  refine zr_iconst 21 (x := 1) rfl rfl (by decide) ?_
  refine zr_iadd 22 rfl rfl ?_
  have mb : b ≠ b + 5 + M := by omega
  have mc : b + 5 + M ≠ b := by omega
  simp only [zu_ne (Or.inl mb), hM, nI_1]
  refine zr_putf 25 rfl rfl rfl (zc_co hb) (Nat.le_of_ble_eq_true rfl) rfl trivial (fun h => by cases h) (zs_co hb 5 (by decide) _) ?_
  refine zr_aload_n 26 rfl rfl rfl trivial ?_
  refine zr_getf 29 rfl rfl rfl (zc_co hb) rfl ?_
  rw [zu_same]
  refine zr_iconst 30 (x := 1) rfl rfl (by decide) ?_
  refine zr_isub 31 rfl rfl ?_
  rw [nI_pred]
  refine zr_iret rfl rfl ?_
  refine ⟨rfl, _, rfl, ?_, ?_, ?_, ?_, ?_, ?_, ?_, ?_, fun k hk => ?_, fun c q1 q2 => ?_⟩
  all_goals first | (simp [zu_eq, mb, mc]; done) | skip
  · simp [zu_eq, mb, hk]
  · funext k
    simp [zu_eq, q1, q2]
