theorem zxp1 {i : Nat} : 1 + 5 + i = 6 + i := rfl
theorem k_mind {S : Nat × (Nat → Int32)} {d n : Nat} {ξ : Nat → Nat → Int32} {ρ : zRho} {K : zCs} (h : zXR ξ 1 K) (hK : zOK K) (x kd a : Int32) : Zc S (d + 2) jX5_mind [.ref 0, .int x, .int kd, .int a] (zWof n ξ ρ) (fun r w => ∃ ξ2, w = zWof n ξ2 ρ ∧ r = some (.int (K.mind x kd a).2) ∧ zXR ξ2 1 (K.mind x kd a).1 ∧ zfrA 1 ξ ξ2) := by
  have hm6 := hK.m6
  refine Zc_mono (d := d + 1) (c_mind h.hm hm6 x kd a) ?_
  rintro r w ⟨e1, e2⟩
  rw [h.hm] at e1 e2
  unfold zCs.mind
  by_cases q : (0 ≤ x ∧ x < nI K.M) ∧ (0 ≤ kd ∧ kd < 6) ∧ (0 ≤ a ∧ a ≤ 9)
  · obtain ⟨rfl, rfl⟩ := e2 q
    rw [if_pos q]
    obtain ⟨i, hi, rfl⟩ := zperI rfl (by omega) q.1
    rw [nI_clamp (by omega)]
    refine ⟨_, rfl, by rw [h.hp i hi 0 (by decide)], (h.sp kd).sp a, fun b hb => ?_⟩
    rw [zun (by omega), zun (by omega)]
  · obtain ⟨rfl, rfl⟩ := e1 q
    rw [if_neg q]
    exact ⟨ξ, rfl, rfl, h, fun _ _ => rfl⟩
set_option maxRecDepth 20000 in
set_option maxHeartbeats 1000000 in
theorem c_bitCount {S : Nat × (Nat → Int32)} {d n : Nat} {ξ : Nat → Nat → Int32} {ρ : zRho} (x : Int32) : Zc S (d + 1) jJ6_bitCount_0f7a4 [.int x] (zWof n ξ ρ) (fun r w => r = some (.int (zbits x)) ∧ w = zWof n ξ ρ) := by
  refine Zc_in (q := (8, 2, 1, 1, 1, 0, 0, zk_J6_bitCount_0f7a4)) rfl (Nat.le_of_ble_eq_true rfl) (L := [_]) rfl ?_
  refine zr_iload_n 1 rfl rfl rfl ?_
  refine zr_iload_n 2 rfl rfl rfl ?_
  refine zr_iconst 3 (x := 1) rfl rfl (by decide) ?_
  refine zr_iushr 4 rfl rfl ?_
  refine zr_ldc_w 7 rfl rfl rfl ?_
  refine zr_iand 8 rfl rfl ?_
  refine zr_isub 9 rfl rfl ?_
  refine zr_istore_n 10 (L2 := [_]) rfl rfl (Nat.le_of_ble_eq_true rfl) (by first | exact trivial | exact rfl) rfl ?_
  refine zr_iload_n 11 rfl rfl rfl ?_
  refine zr_ldc_w 14 rfl rfl rfl ?_
  refine zr_iand 15 rfl rfl ?_
  refine zr_iload_n 16 rfl rfl rfl ?_
  refine zr_iconst 17 (x := 2) rfl rfl (by decide) ?_
  refine zr_iushr 18 rfl rfl ?_
  refine zr_ldc_w 21 rfl rfl rfl ?_
  refine zr_iand 22 rfl rfl ?_
  refine zr_iadd 23 rfl rfl ?_
  refine zr_istore_n 24 (L2 := [_]) rfl rfl (Nat.le_of_ble_eq_true rfl) (by first | exact trivial | exact rfl) rfl ?_
  refine zr_iload_n 25 rfl rfl rfl ?_
  refine zr_iload_n 26 rfl rfl rfl ?_
  refine zr_iconst 27 (x := 4) rfl rfl (by decide) ?_
  refine zr_iushr 28 rfl rfl ?_
  refine zr_iadd 29 rfl rfl ?_
  refine zr_ldc_w 32 rfl rfl rfl ?_
  refine zr_iand 33 rfl rfl ?_
  refine zr_istore_n 34 (L2 := [_]) rfl rfl (Nat.le_of_ble_eq_true rfl) (by first | exact trivial | exact rfl) rfl ?_
  refine zr_iload_n 35 rfl rfl rfl ?_
  refine zr_iload_n 36 rfl rfl rfl ?_
  refine zr_bipush 38 (x := 8) rfl rfl (by decide) ?_
  refine zr_iushr 39 rfl rfl ?_
  refine zr_iadd 40 rfl rfl ?_
  refine zr_istore_n 41 (L2 := [_]) rfl rfl (Nat.le_of_ble_eq_true rfl) (by first | exact trivial | exact rfl) rfl ?_
  refine zr_iload_n 42 rfl rfl rfl ?_
  refine zr_iload_n 43 rfl rfl rfl ?_
  refine zr_bipush 45 (x := 16) rfl rfl (by decide) ?_
  refine zr_iushr 46 rfl rfl ?_
  refine zr_iadd 47 rfl rfl ?_
  refine zr_istore_n 48 (L2 := [_]) rfl rfl (Nat.le_of_ble_eq_true rfl) (by first | exact trivial | exact rfl) rfl ?_
  refine zr_iload_n 49 rfl rfl rfl ?_
  refine zr_bipush 51 (x := 63) rfl rfl (by decide) ?_
  refine zr_iand 52 rfl rfl ?_
  refine zr_iret rfl rfl ?_
  exact ⟨rfl, rfl⟩
set_option maxRecDepth 20000 in
set_option maxHeartbeats 1000000 in
theorem c_ill {S : Nat × (Nat → Int32)} {d n : Nat} {ξ : Nat → Nat → Int32} {ρ : zRho} {K : zCs} (h : zXR ξ 1 K) (hK : zOK K) (x v : Int32) : Zc S (d + 2) jX5_ill [.ref 0, .int x, .int v] (zWof n ξ ρ) (fun r w => ∃ ξ2, w = zWof n ξ2 ρ ∧ r = some (.int (K.ill x v).2) ∧ zXR ξ2 1 (K.ill x v).1 ∧ zfrA 1 ξ ξ2) := by
  have hd3 := hK.d3
  have hm6 := hK.m6
  have ht60 := hK.t60
  refine Zc_in (q := (5, 0, 1, 2, 3, 0, 0, zk_X5_ill)) rfl (Nat.le_of_ble_eq_true rfl) (L := [_, _, _]) rfl ?_
  refine zr_aload_n 1 rfl rfl rfl trivial ?_
  refine zr_iload_n 2 rfl rfl rfl ?_
  refine zr_callv 5 (As := [_]) (u2 := (0, 0)) rfl rfl rfl rfl rfl rfl rfl (Nat.le_of_ble_eq_true rfl) (Nat.le_of_ble_eq_true rfl) (Nat.le_of_ble_eq_true rfl) rfl (c_isPerson _) rfl (fun v2 w2 h2z => ?_)
  obtain ⟨rfl, rfl⟩ := h2z
  refine zr_if_eq 18 8 rfl rfl (by decide) (fun c5z => ?_) (fun c5z => ?_)
  · replace c5z := zb_0.mp c5z
    refine zr_iconst 19 (x := (-1)) rfl rfl (by decide) ?_
    refine zr_iret rfl rfl ?_
    refine ⟨ξ, rfl, ?_⟩
    rw [show K.ill x v = _ from if_neg (fun q => c5z (by rw [h.hm]; exact q.1))]
    exact ⟨rfl, h, fun _ _ => rfl⟩
  · replace c5z := zb_n0.mp c5z
    refine zr_iload_n 9 rfl rfl rfl ?_
    refine zr_if_lt 18 12 rfl rfl (by decide) (fun c9z => ?_) (fun c9z => ?_)
    · refine zr_iconst 19 (x := (-1)) rfl rfl (by decide) ?_
      refine zr_iret rfl rfl ?_
      refine ⟨ξ, rfl, ?_⟩
      rw [show K.ill x v = _ from if_neg (fun q => absurd q.2.1 (Int32.not_le.mpr c9z))]
      exact ⟨rfl, h, fun _ _ => rfl⟩
    · refine zr_iload_n 13 rfl rfl rfl ?_
      refine zr_ldc 15 rfl rfl rfl ?_
      refine zr_icmp_le 20 18 rfl rfl (by decide) (fun c15z => ?_) (fun c15z => ?_)
      · obtain ⟨i, hi, rfl⟩ := zperI h.hm (by omega) c5z
        refine zr_aload_n 21 rfl rfl rfl trivial ?_
        refine zr_getf 24 rfl rfl rfl rfl rfl ?_
        refine zr_getf 27 rfl rfl rfl rfl rfl ?_
        refine zr_iload_n 28 rfl rfl rfl ?_
        refine zr_aald 29 rfl rfl rfl (by decide) (nI_clamp (by omega)) (vp_in_nI (by omega) (by omega)) (zrf_ps (by omega)) ?_
        refine zr_iload_n 30 rfl rfl rfl ?_
        refine zr_putf 33 rfl rfl rfl (zc_pe (zP zc1 (by omega))) (Nat.le_of_ble_eq_true rfl) rfl trivial (fun h => by cases h) (zs_pe (zP zc1 (by omega)) 4 (by decide) _) ?_
        refine zr_iload_n 34 rfl rfl rfl ?_
        refine zr_calls 37 (As := [_]) (u2 := (0, 0)) rfl rfl rfl rfl rfl rfl rfl (Nat.le_of_ble_eq_true rfl) (Nat.le_of_ble_eq_true rfl) (Nat.le_of_ble_eq_true rfl) (c_bitCount _) rfl (fun v2 w2 h34z => ?_)
        obtain ⟨rfl, rfl⟩ := h34z
        refine zr_iret rfl rfl ?_
        have hc : (0 ≤ nI i ∧ nI i < nI K.M) ∧ 0 ≤ v ∧ v ≤ 1073741823 := ⟨⟨nI_pos' (by omega), nI_lt hi (by omega)⟩, Int32.not_lt.mp c9z, c15z⟩
        refine ⟨_, rfl, ?_⟩
        rw [show K.ill (nI i) v = _ from if_pos hc, nI_clamp (by omega)]
        exact ⟨rfl, h.sp v, fun a ha => zun (by omega)⟩
      · refine zr_iconst 19 (x := (-1)) rfl rfl (by decide) ?_
        refine zr_iret rfl rfl ?_
        refine ⟨ξ, rfl, ?_⟩
        rw [show K.ill x v = _ from if_neg (fun q => c15z q.2.2)]
        exact ⟨rfl, h, fun _ _ => rfl⟩
set_option maxRecDepth 20000 in
set_option maxHeartbeats 1000000 in
theorem c_lot {S : Nat × (Nat → Int32)} {d n : Nat} {ξ : Nat → Nat → Int32} {ρ : zRho} {K : zCs} (h : zXR ξ 1 K) (hK : zOK K) (x : Int32) : Zc S (d + 2) jX5_lot [.ref 0, .int x] (zWof n ξ ρ) (fun r w => ∃ ξ2, w = zWof n ξ2 ρ ∧ r = some (.int (K.lot x).2) ∧ zXR ξ2 1 (K.lot x).1 ∧ zfrA 1 ξ ξ2) := by
  have hd3 := hK.d3
  have hm6 := hK.m6
  have ht60 := hK.t60
  refine Zc_in (q := (5, 0, 1, 1, 3, 0, 0, zk_X5_lot)) rfl (Nat.le_of_ble_eq_true rfl) (L := [_, _, _]) rfl ?_
  refine zr_aload_n 1 rfl rfl rfl trivial ?_
  refine zr_iload_n 2 rfl rfl rfl ?_
  refine zr_callv 5 (As := [_]) (u2 := (0, 0)) rfl rfl rfl rfl rfl rfl rfl (Nat.le_of_ble_eq_true rfl) (Nat.le_of_ble_eq_true rfl) (Nat.le_of_ble_eq_true rfl) rfl (c_isPerson _) rfl (fun v2 w2 h2z => ?_)
  obtain ⟨rfl, rfl⟩ := h2z
  refine zr_if_ne 10 8 rfl rfl (by decide) (fun c5z => ?_) (fun c5z => ?_)
  · replace c5z := zb_n0.mp c5z
    obtain ⟨i, hi, rfl⟩ := zperI h.hm (by omega) c5z
    refine zr_aload_n 11 rfl rfl rfl trivial ?_
    refine zr_getf 14 rfl rfl rfl rfl rfl ?_
    refine zr_aload_n 15 rfl rfl rfl trivial ?_
    refine zr_getf 18 rfl rfl rfl rfl rfl ?_
    refine zr_getf 21 rfl rfl rfl rfl rfl ?_
    refine zr_ldc 23 rfl rfl rfl ?_
    refine zr_imul 24 rfl rfl ?_
    refine zr_sipush 27 (x := 12345) rfl rfl (by decide) ?_
    refine zr_iadd 28 rfl rfl ?_
    refine zr_putf 31 rfl rfl rfl rfl (Nat.le_of_ble_eq_true rfl) rfl trivial (fun h => by cases h) (zs_co zc1 7 (by decide) _) ?_
    simp only [h.hz]
    refine zr_aload_n 32 rfl rfl rfl trivial ?_
    refine zr_getf 35 rfl rfl rfl rfl rfl ?_
    refine zr_getf 38 rfl rfl rfl rfl rfl ?_
    refine zr_bipush 40 (x := 16) rfl rfl (by decide) ?_
    refine zr_iushr 41 rfl rfl ?_
    refine zr_bipush 43 (x := 30) rfl rfl (by decide) ?_
    refine zr_irem 44 rfl rfl (by decide) ?_
    refine zr_istore_n 45 (L2 := [_, _, _]) rfl rfl (Nat.le_of_ble_eq_true rfl) (by first | exact trivial | exact rfl) rfl ?_
    refine zr_aload_n 46 rfl rfl rfl trivial ?_
    refine zr_getf 49 rfl rfl rfl rfl rfl ?_
    refine zr_getf 52 rfl rfl rfl rfl rfl ?_
    refine zr_iload_n 53 rfl rfl rfl ?_
    refine zr_aald 54 rfl rfl rfl (by decide) (nI_clamp (by omega)) (vp_in_nI (by omega) (by omega)) (zrf_ps (by omega)) ?_
    refine zr_dup 55 rfl rfl rfl ?_
    refine zr_getf 58 rfl rfl rfl (zc_pe (zP zc1 (by omega))) rfl ?_
    refine zr_iconst 59 (x := 1) rfl rfl (by decide) ?_
    refine zr_iload_n 60 rfl rfl rfl ?_
    refine zr_ishl 61 rfl rfl ?_
    refine zr_ior 62 rfl rfl ?_
    refine zr_putf 65 rfl rfl rfl (zc_pe (zP zc1 (by omega))) (Nat.le_of_ble_eq_true rfl) rfl trivial (fun h => by cases h) (zs_pe (zP zc1 (by omega)) 4 (by decide) _) ?_
    refine zr_iload_n 66 rfl rfl rfl ?_
    refine zr_iret rfl rfl ?_
    refine ⟨_, rfl, ?_⟩
    rw [show K.lot (nI i) = _ from if_pos ⟨nI_pos' (by omega), nI_lt hi (by omega)⟩, nI_clamp (by omega)]
    refine ⟨by rw [zu_same]; rfl, ?_, fun a ha => by rw [zun (by omega), zun (by omega)]⟩
    have e := (h.sz (K.z * 1103515245 + 12345)).sp (i := i) (k := 4) (K.p i 4 ||| (1 : Int32) <<< (zlotD (K.z * 1103515245 + 12345) &&& 31))
    refine Eq.mp ?_ e
    congr 2
    rw [zun (by omega), h.hp i hi 4 (by decide), zu_same]
    rfl
  · replace c5z := zb_0.mp c5z
    refine zr_iconst 9 (x := (-1)) rfl rfl (by decide) ?_
    refine zr_iret rfl rfl ?_
    refine ⟨ξ, rfl, ?_⟩
    rw [show K.lot x = _ from if_neg (fun q => c5z (by rw [h.hm]; exact q))]
    exact ⟨rfl, h, fun _ _ => rfl⟩
set_option maxRecDepth 20000 in
set_option maxHeartbeats 1000000 in
theorem c_days {S : Nat × (Nat → Int32)} {d n : Nat} {ξ : Nat → Nat → Int32} {ρ : zRho} {K : zCs} (h : zXR ξ 1 K) (hK : zOK K) (x : Int32) : Zc S (d + 7) jX5_days [.ref 0, .int x] (zWof n ξ ρ) (fun r w => ∃ ξ2, w = zWof n ξ2 ρ ∧ r = some (.int (K.days x).2) ∧ zXR ξ2 1 (K.days x).1 ∧ zfrA 1 ξ ξ2) := by
  have hd3 := hK.d3
  have hm6 := hK.m6
  have ht60 := hK.t60
  refine Zc_in (q := (5, 0, 1, 1, 2, 0, 0, zk_X5_days)) rfl (Nat.le_of_ble_eq_true rfl) (L := [_, _]) rfl ?_
  refine zr_iload_n 1 rfl rfl rfl ?_
  refine zr_if_lt 10 4 rfl rfl (by decide) (fun c1z => ?_) (fun c1z => ?_)
  · refine zr_iconst 11 (x := (-1)) rfl rfl (by decide) ?_
    refine zr_iret rfl rfl ?_
    refine ⟨ξ, rfl, ?_⟩
    rw [show K.days x = _ from if_neg (fun q => absurd q.1 (Int32.not_le.mpr c1z))]
    exact ⟨rfl, h, fun _ _ => rfl⟩
  · refine zr_iload_n 5 rfl rfl rfl ?_
    refine zr_bipush 7 (x := 60) rfl rfl (by decide) ?_
    refine zr_icmp_le 12 10 rfl rfl (by decide) (fun c7z => ?_) (fun c7z => ?_)
    · obtain ⟨i, hi, rfl⟩ := zbetI (k := 60) rfl (by decide) (Int32.not_lt.mp c1z) c7z
      refine zr_aload_n 13 rfl rfl rfl trivial ?_
      refine zr_getf 16 rfl rfl rfl rfl rfl ?_
      refine zr_bipush 18 (x := 60) rfl rfl (by decide) ?_
      refine zr_aload_n 19 rfl rfl rfl trivial ?_
      refine zr_getf 22 rfl rfl rfl rfl rfl ?_
      refine zr_getf 25 rfl rfl rfl rfl rfl ?_
      refine zr_iload_n 26 rfl rfl rfl ?_
      refine zr_iadd 27 rfl rfl ?_
      refine zr_min 30 rfl rfl rfl (Nat.le_of_ble_eq_true rfl) rfl ?_
      rw [show (if ξ 1 6 + nI i < 60 then ξ 1 6 + nI i else 60) = nI (min 60 (K.T + i)) by
        rw [h.ht, nI_add]
        show (if nI (K.T + i) < nI 60 then nI (K.T + i) else nI 60) = _
        by_cases q : K.T + i < 60
        · rw [if_pos ((nI_ltI (b := 60) (by omega) (by decide)).mpr q), Nat.min_eq_right (by omega)]
        · rw [if_neg (fun z => q ((nI_ltI (b := 60) (by omega) (by decide)).mp z)), Nat.min_eq_left (by omega)]]
      refine zr_callv 33 (As := [_]) (u2 := (0, 0)) rfl rfl rfl rfl rfl rfl rfl (Nat.le_of_ble_eq_true rfl) (Nat.le_of_ble_eq_true rfl) (Nat.le_of_ble_eq_true rfl) rfl (k_goTo zc1 h hK (by omega) (by omega)) rfl (fun v2 w2 h30z => ?_)
      obtain ⟨rfl, ξ2, rfl, x2, f2⟩ := h30z
      refine zr_aload_n 34 rfl rfl rfl trivial ?_
      refine zr_getf 37 rfl rfl rfl rfl rfl ?_
      refine zr_getf 40 rfl rfl rfl rfl rfl ?_
      refine zr_iret rfl rfl ?_
      refine ⟨ξ2, rfl, ?_⟩
      rw [show K.days (nI i) = _ from if_pos ⟨Int32.not_lt.mp c1z, c7z⟩, nI_clamp (by omega)]
      exact ⟨by rw [x2.ht]; rfl, x2, f2⟩
    · refine zr_iconst 11 (x := (-1)) rfl rfl (by decide) ?_
      refine zr_iret rfl rfl ?_
      refine ⟨ξ, rfl, ?_⟩
      rw [show K.days x = _ from if_neg (fun q => c7z q.2)]
      exact ⟨rfl, h, fun _ _ => rfl⟩
set_option maxRecDepth 20000 in
set_option maxHeartbeats 1000000 in
theorem c_keep {S : Nat × (Nat → Int32)} {d n : Nat} {ξ : Nat → Nat → Int32} {ρ : zRho} {K : zCs} (h : zXR ξ 1 K) (hK : zOK K) : Zc S (d + 3) jX5_keep [.ref 0] (zWof n ξ ρ) (fun r w => ∃ ξ2, w = zWof n ξ2 ρ ∧ r = some (.int 1) ∧ zXR ξ2 12 K ∧ ξ2 0 3 = 1 ∧ (∀ k, k ≠ 3 → ξ2 0 k = ξ 0 k) ∧ ∀ a, a ≠ 0 → (a < 12 ∨ 23 ≤ a) → ξ2 a = ξ a) := by
  have hd3 := hK.d3
  have hm6 := hK.m6
  have ht60 := hK.t60
  refine Zc_in (q := (5, 0, 1, 0, 1, 0, 0, zk_X5_keep)) rfl (Nat.le_of_ble_eq_true rfl) (L := [_]) rfl ?_
  refine zr_aload_n 1 rfl rfl rfl trivial ?_
  refine zr_getf 4 rfl rfl rfl rfl rfl ?_
  refine zr_aload_n 5 rfl rfl rfl trivial ?_
  refine zr_getf 8 rfl rfl rfl rfl rfl ?_
  refine zr_callv 11 (As := [_]) (u2 := (0, 0)) rfl rfl rfl rfl rfl rfl rfl (Nat.le_of_ble_eq_true rfl) (Nat.le_of_ble_eq_true rfl) (Nat.le_of_ble_eq_true rfl) rfl (k_copy zc12 zc1 (by decide) h hK) rfl (fun v2 w2 h8z => ?_)
  obtain ⟨rfl, ξ1, rfl, x1, f1⟩ := h8z
  refine zr_aload_n 12 rfl rfl rfl trivial ?_
  refine zr_iconst 13 (x := 1) rfl rfl (by decide) ?_
  refine zr_putf 16 rfl rfl rfl rfl (Nat.le_of_ble_eq_true rfl) rfl (by first | exact Or.inl rfl | exact Or.inr rfl | assumption) (fun h => by cases h) (zW_set (k := 3) rfl) ?_
  refine zr_iconst 17 (x := 1) rfl rfl (by decide) ?_
  refine zr_iret rfl rfl ?_
  refine ⟨_, rfl, rfl, x1.fr hm6 (fun a a1 _ => zun (by omega)), zu_same _ _ _ _, fun k hk => ?_, fun a a1 a2 => ?_⟩
  · rw [zu_ne (Or.inr hk), f1 0 (by omega)]
  · rw [zun a1]
    exact f1 a a2
set_option maxRecDepth 20000 in
set_option maxHeartbeats 1000000 in
theorem c_again {S : Nat × (Nat → Int32)} {d n : Nat} {ξ : Nat → Nat → Int32} {ρ : zRho} {K : zCs} (hk : ¬ ξ 0 3 = 0 → zXR ξ 12 K ∧ zOK K) : Zc S (d + 3) jX5_again [.ref 0] (zWof n ξ ρ) (fun r w => (ξ 0 3 = 0 → r = some (.int (-3)) ∧ w = zWof n ξ ρ) ∧ (¬ ξ 0 3 = 0 → ∃ ξ2, w = zWof n ξ2 ρ ∧ r = some (.int (nI K.T)) ∧ zXR ξ2 1 K ∧ zfrA 1 ξ ξ2)) := by
  refine Zc_in (q := (5, 0, 1, 0, 1, 0, 0, zk_X5_again)) rfl (Nat.le_of_ble_eq_true rfl) (L := [_]) rfl ?_
  refine zr_aload_n 1 rfl rfl rfl trivial ?_
  refine zr_getf 4 rfl rfl rfl rfl rfl ?_
  refine zr_if_ne 10 7 rfl rfl (by decide) (fun c4z => ?_) (fun c4z => ?_)
  · obtain ⟨h, hK⟩ := hk c4z
    refine zr_aload_n 11 rfl rfl rfl trivial ?_
    refine zr_getf 14 rfl rfl rfl rfl rfl ?_
    refine zr_aload_n 15 rfl rfl rfl trivial ?_
    refine zr_getf 18 rfl rfl rfl rfl rfl ?_
    refine zr_callv 21 (As := [_]) (u2 := (0, 0)) rfl rfl rfl rfl rfl rfl rfl (Nat.le_of_ble_eq_true rfl) (Nat.le_of_ble_eq_true rfl) (Nat.le_of_ble_eq_true rfl) rfl (k_copy zc1 zc12 (by decide) h hK) rfl (fun v2 w2 h18z => ?_)
    obtain ⟨rfl, ξ1, rfl, x1, f1⟩ := h18z
    refine zr_aload_n 22 rfl rfl rfl trivial ?_
    refine zr_getf 25 rfl rfl rfl rfl rfl ?_
    refine zr_getf 28 rfl rfl rfl rfl rfl ?_
    refine zr_iret rfl rfl ?_
    exact ⟨fun q => absurd q c4z, fun _ => ⟨ξ1, rfl, by rw [x1.ht], x1, f1⟩⟩
  · refine zr_bipush 9 (x := (-3)) rfl rfl (by decide) ?_
    refine zr_iret rfl rfl ?_
    exact ⟨fun _ => ⟨rfl, rfl⟩, fun q => absurd c4z q⟩
set_option maxRecDepth 20000 in
set_option maxHeartbeats 1000000 in
theorem c_tryAsItIs {S : Nat × (Nat → Int32)} {d n : Nat} {ξ : Nat → Nat → Int32} {ρ : zRho} {K : zCs} (h : zXR ξ 1 K) (hK : zOK K) : Zc S (d + 7) jX5_tryAsItIs [.ref 0] (zWof n ξ ρ) (fun r w => r = none ∧ ∃ ξ2, w = zWof n ξ2 ρ ∧ zXR ξ2 23 (K.go 60) ∧ zfrA 23 ξ ξ2) := by
  have hd3 := hK.d3
  have hm6 := hK.m6
  have ht60 := hK.t60
  refine Zc_in (q := (5, 0, 0, 0, 1, 0, 0, zk_X5_tryAsItIs)) rfl (Nat.le_of_ble_eq_true rfl) (L := [_]) rfl ?_
  refine zr_aload_n 1 rfl rfl rfl trivial ?_
  refine zr_getf 4 rfl rfl rfl rfl rfl ?_
  refine zr_aload_n 5 rfl rfl rfl trivial ?_
  refine zr_getf 8 rfl rfl rfl rfl rfl ?_
  refine zr_callv 11 (As := [_]) (u2 := (0, 0)) rfl rfl rfl rfl rfl rfl rfl (Nat.le_of_ble_eq_true rfl) (Nat.le_of_ble_eq_true rfl) (Nat.le_of_ble_eq_true rfl) rfl (k_copy zc23 zc1 (by decide) h hK) rfl (fun v2 w2 h8z => ?_)
  obtain ⟨rfl, ξ1, rfl, x1, f1⟩ := h8z
  refine zr_aload_n 12 rfl rfl rfl trivial ?_
  refine zr_getf 15 rfl rfl rfl rfl rfl ?_
  refine zr_bipush 17 (x := 60) rfl rfl (by decide) ?_
  refine zr_callv 20 (As := [_]) (u2 := (0, 0)) rfl rfl rfl rfl rfl rfl rfl (Nat.le_of_ble_eq_true rfl) (Nat.le_of_ble_eq_true rfl) (Nat.le_of_ble_eq_true rfl) rfl (k_goTo (E := 60) zc23 x1 hK ht60 (by decide)) rfl (fun v2 w2 h17z => ?_)
  obtain ⟨rfl, ξ2, rfl, x2, f2⟩ := h17z
  refine zr_ret rfl rfl ?_
  exact ⟨rfl, ξ2, rfl, x2, fun a ha => by rw [f2 a ha, f1 a ha]⟩
def zCs.heap (K : zCs) (x : Int32) : Int32 := if 0 ≤ x ∧ x < 60 then zcntF (fun i => (K.go 60).p i 5 = x) K.M else -1
def zCs.wn (K : zCs) (i : Nat) : Int32 := if (K.go 60).p i 5 = -9 then -3 else (K.go 60).p i 5
def zCs.mko (K : zCs) (i : Nat) : Int32 := if (K.go 60).mk' i < 0 then -3 else (K.go 60).mk' i
theorem zfin_p {K : zCs} (i : Nat) : (K.fin i).p i = (K.go 60).p i := if_pos rfl
theorem zfin_mk {K : zCs} (i : Nat) : (K.fin i).mk' i = (K.go 60).mk' i := by
  unfold zCs.mk'
  rw [zfin_p]
  rfl
theorem zneg9 {x : Int32} (h : 0 ≤ x) : ¬ x = -9 := fun e => by
  rw [e] at h
  exact absurd h (by decide)
set_option maxRecDepth 20000 in
set_option maxHeartbeats 1000000 in
theorem c_heap {S : Nat × (Nat → Int32)} {d n : Nat} {ξ : Nat → Nat → Int32} {ρ : zRho} {K : zCs} (h : zXR ξ 1 K) (hK : zOK K) (x : Int32) : Zc S (d + 8) jX5_heap [.ref 0, .int x] (zWof n ξ ρ) (fun r w => ∃ ξ2, w = zWof n ξ2 ρ ∧ r = some (.int (K.heap x)) ∧ zfrA 23 ξ ξ2) := by
  have hd3 := hK.d3
  have hm6 := hK.m6
  have ht60 := hK.t60
  refine Zc_in (q := (5, 0, 1, 1, 4, 0, 0, zk_X5_heap)) rfl (Nat.le_of_ble_eq_true rfl) (L := [_, _, _, _]) rfl ?_
  have key : ∀ (k : Nat) (i : Nat) (q : Int32) (ξ1 : Nat → Nat → Int32), K.M - i = k → zXR ξ1 23 (K.go 60) → zfrA 23 ξ ξ1 → 0 ≤ x → x < 60 → i ≤ K.M → q = zcntF (fun i => (K.go 60).p i 5 = x) i →  Zw S (Zc S (d + 7)) 5 false 1 zk_X5_heap (fun r w => ∃ ξ2, w = zWof n ξ2 ρ ∧ r = some (.int (K.heap x)) ∧ zfrA 23 ξ ξ2) (20, [some (.ref 0), some (.int x), some (.int q), some (.int (nI i))], [], (0, 0), zWof n ξ1 ρ) := by
    intro k
    induction k using Nat.strongRecOn with
    | ind k ih =>
      intro i q ξ1 hk x1 f1 hx0 hx1 h2 ex
      have em : ξ1 23 5 = nI K.M := x1.hm
      refine zr_iload_n 21 rfl rfl rfl ?_
      refine zr_aload_n 22 rfl rfl rfl trivial ?_
      refine zr_getf 25 rfl rfl rfl rfl rfl ?_
      refine zr_getf 28 rfl rfl rfl rfl rfl ?_
      refine zr_icmp_ge 71 31 rfl rfl (by decide) (fun c28z => ?_) (fun c28z => ?_)
      · rw [em, nI_leI (by omega) (by omega)] at c28z
        refine zr_iload_n 72 rfl rfl rfl ?_
        refine zr_iret rfl rfl ?_
        refine ⟨ξ1, rfl, ?_, f1⟩
        rw [show K.heap x = _ from if_pos ⟨hx0, hx1⟩, ex, show i = K.M by omega]
      · rw [em, nI_leI (by omega) (by omega)] at c28z
        have e5 : ξ1 (23 + 5 + i) 5 = (K.go 60).p i 5 := x1.hp i (show i < K.M by omega) 5 (by decide)
        refine zr_aload_n 32 rfl rfl rfl trivial ?_
        refine zr_getf 35 rfl rfl rfl rfl rfl ?_
        refine zr_getf 38 rfl rfl rfl rfl rfl ?_
        refine zr_iload_n 39 rfl rfl rfl ?_
        refine zr_aald 40 rfl rfl rfl (by decide) (nI_clamp (by omega)) (vp_in_nI (by omega) (by omega)) (zrf_ps (by omega)) ?_
        refine zr_callv 43 (As := []) (u2 := (0, 0)) rfl rfl rfl rfl rfl rfl rfl (Nat.le_of_ble_eq_true rfl) (Nat.le_of_ble_eq_true rfl) (Nat.le_of_ble_eq_true rfl) (zc_pe (zP zc23 (by omega))) (c_hasHanded (zP zc23 (by omega))) rfl (fun v2 w2 h40z => ?_)
        obtain ⟨rfl, rfl⟩ := h40z
        refine zr_if_eq 65 46 rfl rfl (by decide) (fun c43z => ?_) (fun c43z => ?_)
        · replace c43z := zb_0.mp c43z
          refine zr_iinc 68 (c0 := 1) (L2 := [_, _, _, _]) rfl rfl rfl (by first | exact trivial | exact rfl) (by decide) rfl ?_
          refine zr_goto 20 rfl (by decide) ?_
          rw [nI_1]
          refine ih _ (by omega) (i + 1) _ ξ1 rfl x1 f1 hx0 hx1 (by omega) ?_
          unfold zcntF
          rw [if_neg (fun q => zneg9 hx0 (by rw [← q, ← e5]; exact Decidable.not_not.mp c43z))]
          exact ex
        · replace c43z := zb_n0.mp c43z
          refine zr_aload_n 47 rfl rfl rfl trivial ?_
          refine zr_getf 50 rfl rfl rfl rfl rfl ?_
          refine zr_getf 53 rfl rfl rfl rfl rfl ?_
          refine zr_iload_n 54 rfl rfl rfl ?_
          refine zr_aald 55 rfl rfl rfl (by decide) (nI_clamp (by omega)) (vp_in_nI (by omega) (by omega)) (zrf_ps (by omega)) ?_
          refine zr_getf 58 rfl rfl rfl (zc_pe (zP zc23 (by omega))) rfl ?_
          refine zr_iload_n 59 rfl rfl rfl ?_
          refine zr_icmp_ne 65 62 rfl rfl (by decide) (fun c59z => ?_) (fun c59z => ?_)
          · refine zr_iinc 68 (c0 := 1) (L2 := [_, _, _, _]) rfl rfl rfl (by first | exact trivial | exact rfl) (by decide) rfl ?_
            refine zr_goto 20 rfl (by decide) ?_
            rw [nI_1]
            refine ih _ (by omega) (i + 1) _ ξ1 rfl x1 f1 hx0 hx1 (by omega) ?_
            unfold zcntF
            rw [if_neg (by rw [← e5]; exact c59z)]
            exact ex
          · refine zr_iinc 65 (c0 := 1) (L2 := [_, _, _, _]) rfl rfl rfl (by first | exact trivial | exact rfl) (by decide) rfl ?_
            refine zr_iinc 68 (c0 := 1) (L2 := [_, _, _, _]) rfl rfl rfl (by first | exact trivial | exact rfl) (by decide) rfl ?_
            refine zr_goto 20 rfl (by decide) ?_
            rw [nI_1]
            refine ih _ (by omega) (i + 1) _ ξ1 rfl x1 f1 hx0 hx1 (by omega) ?_
            unfold zcntF
            rw [if_pos (by rw [← e5]; exact c59z), ex]
  refine zr_iload_n 1 rfl rfl rfl ?_
  refine zr_if_lt 10 4 rfl rfl (by decide) (fun c1z => ?_) (fun c1z => ?_)
  · refine zr_iconst 11 (x := (-1)) rfl rfl (by decide) ?_
    refine zr_iret rfl rfl ?_
    refine ⟨ξ, rfl, ?_, fun _ _ => rfl⟩
    rw [show K.heap x = _ from if_neg (fun q => absurd q.1 (Int32.not_le.mpr c1z))]
  · refine zr_iload_n 5 rfl rfl rfl ?_
    refine zr_bipush 7 (x := 60) rfl rfl (by decide) ?_
    refine zr_icmp_lt 12 10 rfl rfl (by decide) (fun c7z => ?_) (fun c7z => ?_)
    · refine zr_aload_n 13 rfl rfl rfl trivial ?_
      refine zr_callv 16 (As := []) (u2 := (0, 0)) rfl rfl rfl rfl rfl rfl rfl (Nat.le_of_ble_eq_true rfl) (Nat.le_of_ble_eq_true rfl) (Nat.le_of_ble_eq_true rfl) rfl (c_tryAsItIs h hK) rfl (fun v2 w2 h13z => ?_)
      obtain ⟨rfl, ξ1, rfl, x1, f1⟩ := h13z
      refine zr_iconst 17 (x := 0) rfl rfl (by decide) ?_
      refine zr_istore_n 18 (L2 := [_, _, _, _]) rfl rfl (Nat.le_of_ble_eq_true rfl) (by first | exact trivial | exact rfl) rfl ?_
      refine zr_iconst 19 (x := 0) rfl rfl (by decide) ?_
      refine zr_istore_n 20 (L2 := [_, _, _, _]) rfl rfl (Nat.le_of_ble_eq_true rfl) (by first | exact trivial | exact rfl) rfl ?_
      exact key _ 0 0 ξ1 rfl x1 f1 (Int32.not_lt.mp c1z) c7z (by omega) rfl
    · refine zr_iconst 11 (x := (-1)) rfl rfl (by decide) ?_
      refine zr_iret rfl rfl ?_
      refine ⟨ξ, rfl, ?_, fun _ _ => rfl⟩
      rw [show K.heap x = _ from if_neg (fun q => c7z q.2)]
set_option maxRecDepth 20000 in
set_option maxHeartbeats 1000000 in
theorem c_when {S : Nat × (Nat → Int32)} {d n : Nat} {ξ : Nat → Nat → Int32} {ρ : zRho} {K : zCs} (h : zXR ξ 1 K) (hK : zOK K) (x : Int32) : Zc S (d + 8) jX5_when [.ref 0, .int x] (zWof n ξ ρ) (fun r w => ∃ ξ2, w = zWof n ξ2 ρ ∧ r = some (.int (zper K x K.wn)) ∧ zfrA 23 ξ ξ2) := by
  have hd3 := hK.d3
  have hm6 := hK.m6
  have ht60 := hK.t60
  refine Zc_in (q := (5, 0, 1, 1, 3, 0, 0, zk_X5_when)) rfl (Nat.le_of_ble_eq_true rfl) (L := [_, _, _]) rfl ?_
  refine zr_aload_n 1 rfl rfl rfl trivial ?_
  refine zr_iload_n 2 rfl rfl rfl ?_
  refine zr_callv 5 (As := [_]) (u2 := (0, 0)) rfl rfl rfl rfl rfl rfl rfl (Nat.le_of_ble_eq_true rfl) (Nat.le_of_ble_eq_true rfl) (Nat.le_of_ble_eq_true rfl) rfl (c_isPerson _) rfl (fun v2 w2 h2z => ?_)
  obtain ⟨rfl, rfl⟩ := h2z
  refine zr_if_ne 10 8 rfl rfl (by decide) (fun c5z => ?_) (fun c5z => ?_)
  · replace c5z := zb_n0.mp c5z
    obtain ⟨i, hi, rfl⟩ := zperI h.hm (by omega) c5z
    refine zr_aload_n 11 rfl rfl rfl trivial ?_
    refine zr_getf 14 rfl rfl rfl rfl rfl ?_
    refine zr_aload_n 15 rfl rfl rfl trivial ?_
    refine zr_getf 18 rfl rfl rfl rfl rfl ?_
    refine zr_callv 21 (As := [_]) (u2 := (0, 0)) rfl rfl rfl rfl rfl rfl rfl (Nat.le_of_ble_eq_true rfl) (Nat.le_of_ble_eq_true rfl) (Nat.le_of_ble_eq_true rfl) rfl (k_copy zc23 zc1 (by decide) h hK) rfl (fun v2 w2 h18z => ?_)
    obtain ⟨rfl, ξ1, rfl, x1, f1⟩ := h18z
    refine zr_aload_n 22 rfl rfl rfl trivial ?_
    refine zr_getf 25 rfl rfl rfl rfl rfl ?_
    refine zr_iload_n 26 rfl rfl rfl ?_
    refine zr_callv 29 (As := [_]) (u2 := (0, 0)) rfl rfl rfl rfl rfl rfl rfl (Nat.le_of_ble_eq_true rfl) (Nat.le_of_ble_eq_true rfl) (Nat.le_of_ble_eq_true rfl) rfl (k_finish zc23 x1 hK hi) rfl (fun v2 w2 h26z => ?_)
    obtain ⟨rfl, ξ2, rfl, x2, f2⟩ := h26z
    refine zr_pop 30 rfl rfl rfl ?_
    refine zr_aload_n 31 rfl rfl rfl trivial ?_
    refine zr_getf 34 rfl rfl rfl rfl rfl ?_
    refine zr_getf 37 rfl rfl rfl rfl rfl ?_
    refine zr_iload_n 38 rfl rfl rfl ?_
    refine zr_aald 39 rfl rfl rfl (by decide) (nI_clamp (by omega)) (vp_in_nI (by omega) (by omega)) (zrf_ps (by omega)) ?_
    refine zr_astore_n 40 (L2 := [_, _, _]) rfl rfl trivial (Nat.le_of_ble_eq_true rfl) (by first | exact trivial | exact rfl) rfl ?_
    refine zr_aload_n 41 rfl rfl rfl trivial ?_
    refine zr_callv 44 (As := []) (u2 := (0, 0)) rfl rfl rfl rfl rfl rfl rfl (Nat.le_of_ble_eq_true rfl) (Nat.le_of_ble_eq_true rfl) (Nat.le_of_ble_eq_true rfl) (zc_pe (zP zc23 (by omega))) (c_hasHanded (zP zc23 (by omega))) rfl (fun v2 w2 h41z => ?_)
    obtain ⟨rfl, rfl⟩ := h41z
    refine zr_if_eq 54 47 rfl rfl (by decide) (fun c44z => ?_) (fun c44z => ?_)
    · replace c44z := zb_0.mp c44z
      refine zr_bipush 56 (x := (-3)) rfl rfl (by decide) ?_
      refine zr_iret rfl rfl ?_
      have e5 : ξ2 (23 + 5 + i) 5 = (K.go 60).p i 5 := (x2.hp i hi 5 (by decide)).trans (congrFun (zfin_p i) 5)
      refine ⟨ξ2, rfl, ?_, fun a ha => by rw [f2 a ha, f1 a ha]⟩
      rw [zper_in hm6 hi, zCs.wn, ← e5]
      rw [if_pos (Decidable.not_not.mp c44z)]
    · replace c44z := zb_n0.mp c44z
      refine zr_aload_n 48 rfl rfl rfl trivial ?_
      refine zr_getf 51 rfl rfl rfl (zc_pe (zP zc23 (by omega))) rfl ?_
      refine zr_goto 56 rfl (by decide) ?_
      refine zr_iret rfl rfl ?_
      have e5 : ξ2 (23 + 5 + i) 5 = (K.go 60).p i 5 := (x2.hp i hi 5 (by decide)).trans (congrFun (zfin_p i) 5)
      refine ⟨ξ2, rfl, ?_, fun a ha => by rw [f2 a ha, f1 a ha]⟩
      rw [zper_in hm6 hi, zCs.wn, ← e5]
      rw [if_neg c44z]
  · replace c5z := zb_0.mp c5z
    refine zr_iconst 9 (x := (-1)) rfl rfl (by decide) ?_
    refine zr_iret rfl rfl ?_
    refine ⟨ξ, rfl, ?_, fun _ _ => rfl⟩
    rw [show zper K x K.wn = _ from zper_out h.hm _ c5z]
set_option maxRecDepth 20000 in
set_option maxHeartbeats 1000000 in
theorem c_markOf {S : Nat × (Nat → Int32)} {d n : Nat} {ξ : Nat → Nat → Int32} {ρ : zRho} {K : zCs} (h : zXR ξ 1 K) (hK : zOK K) (x : Int32) : Zc S (d + 8) jX5_markOf [.ref 0, .int x] (zWof n ξ ρ) (fun r w => ∃ ξ2, w = zWof n ξ2 ρ ∧ r = some (.int (zper K x K.mko)) ∧ zfrA 23 ξ ξ2) := by
  have hd3 := hK.d3
  have hm6 := hK.m6
  have ht60 := hK.t60
  refine Zc_in (q := (5, 0, 1, 1, 3, 0, 0, zk_X5_markOf)) rfl (Nat.le_of_ble_eq_true rfl) (L := [_, _, _]) rfl ?_
  refine zr_aload_n 1 rfl rfl rfl trivial ?_
  refine zr_iload_n 2 rfl rfl rfl ?_
  refine zr_callv 5 (As := [_]) (u2 := (0, 0)) rfl rfl rfl rfl rfl rfl rfl (Nat.le_of_ble_eq_true rfl) (Nat.le_of_ble_eq_true rfl) (Nat.le_of_ble_eq_true rfl) rfl (c_isPerson _) rfl (fun v2 w2 h2z => ?_)
  obtain ⟨rfl, rfl⟩ := h2z
  refine zr_if_ne 10 8 rfl rfl (by decide) (fun c5z => ?_) (fun c5z => ?_)
  · replace c5z := zb_n0.mp c5z
    obtain ⟨i, hi, rfl⟩ := zperI h.hm (by omega) c5z
    refine zr_aload_n 11 rfl rfl rfl trivial ?_
    refine zr_getf 14 rfl rfl rfl rfl rfl ?_
    refine zr_aload_n 15 rfl rfl rfl trivial ?_
    refine zr_getf 18 rfl rfl rfl rfl rfl ?_
    refine zr_callv 21 (As := [_]) (u2 := (0, 0)) rfl rfl rfl rfl rfl rfl rfl (Nat.le_of_ble_eq_true rfl) (Nat.le_of_ble_eq_true rfl) (Nat.le_of_ble_eq_true rfl) rfl (k_copy zc23 zc1 (by decide) h hK) rfl (fun v2 w2 h18z => ?_)
    obtain ⟨rfl, ξ1, rfl, x1, f1⟩ := h18z
    refine zr_aload_n 22 rfl rfl rfl trivial ?_
    refine zr_getf 25 rfl rfl rfl rfl rfl ?_
    refine zr_iload_n 26 rfl rfl rfl ?_
    refine zr_callv 29 (As := [_]) (u2 := (0, 0)) rfl rfl rfl rfl rfl rfl rfl (Nat.le_of_ble_eq_true rfl) (Nat.le_of_ble_eq_true rfl) (Nat.le_of_ble_eq_true rfl) rfl (k_finish zc23 x1 hK hi) rfl (fun v2 w2 h26z => ?_)
    obtain ⟨rfl, ξ2, rfl, x2, f2⟩ := h26z
    refine zr_istore_n 30 (L2 := [_, _, _]) rfl rfl (Nat.le_of_ble_eq_true rfl) (by first | exact trivial | exact rfl) rfl ?_
    refine zr_iload_n 31 rfl rfl rfl ?_
    refine zr_if_lt 38 34 rfl rfl (by decide) (fun c31z => ?_) (fun c31z => ?_)
    · refine zr_bipush 40 (x := (-3)) rfl rfl (by decide) ?_
      refine zr_iret rfl rfl ?_
      refine ⟨ξ2, rfl, ?_, fun a ha => by rw [f2 a ha, f1 a ha]⟩
      rw [zfin_mk] at c31z
      rw [zper_in hm6 hi, zCs.mko]
      rw [if_pos c31z]
    · refine zr_iload_n 35 rfl rfl rfl ?_
      refine zr_goto 40 rfl (by decide) ?_
      refine zr_iret rfl rfl ?_
      refine ⟨ξ2, rfl, ?_, fun a ha => by rw [f2 a ha, f1 a ha]⟩
      rw [zfin_mk] at c31z
      rw [zper_in hm6 hi, zCs.mko]
      rw [if_neg c31z, zfin_mk]
  · replace c5z := zb_0.mp c5z
    refine zr_iconst 9 (x := (-1)) rfl rfl (by decide) ?_
    refine zr_iret rfl rfl ?_
    refine ⟨ξ, rfl, ?_, fun _ _ => rfl⟩
    rw [show zper K x K.mko = _ from zper_out h.hm _ c5z]
set_option maxRecDepth 20000 in
set_option maxHeartbeats 1000000 in
theorem c_late {S : Nat × (Nat → Int32)} {d n : Nat} {ξ : Nat → Nat → Int32} {ρ : zRho} {K : zCs} (h : zXR ξ 1 K) (hK : zOK K) : Zc S (d + 8) jX5_late [.ref 0] (zWof n ξ ρ) (fun r w => ∃ ξ2, w = zWof n ξ2 ρ ∧ r = some (.int ((K.go 60).lts)) ∧ zfrA 23 ξ ξ2) := by
  have hd3 := hK.d3
  have hm6 := hK.m6
  have ht60 := hK.t60
  refine Zc_in (q := (5, 0, 1, 0, 1, 0, 0, zk_X5_late)) rfl (Nat.le_of_ble_eq_true rfl) (L := [_]) rfl ?_
  refine zr_aload_n 1 rfl rfl rfl trivial ?_
  refine zr_callv 4 (As := []) (u2 := (0, 0)) rfl rfl rfl rfl rfl rfl rfl (Nat.le_of_ble_eq_true rfl) (Nat.le_of_ble_eq_true rfl) (Nat.le_of_ble_eq_true rfl) rfl (c_tryAsItIs h hK) rfl (fun v2 w2 h1z => ?_)
  obtain ⟨rfl, ξ1, rfl, x1, f1⟩ := h1z
  refine zr_aload_n 5 rfl rfl rfl trivial ?_
  refine zr_getf 8 rfl rfl rfl rfl rfl ?_
  refine zr_callv 11 (As := []) (u2 := (0, 0)) rfl rfl rfl rfl rfl rfl rfl (Nat.le_of_ble_eq_true rfl) (Nat.le_of_ble_eq_true rfl) (Nat.le_of_ble_eq_true rfl) rfl (k_late zc23 x1 hm6) rfl (fun v2 w2 h8z => ?_)
  obtain ⟨rfl, rfl⟩ := h8z
  refine zr_iret rfl rfl ?_
  exact ⟨ξ1, rfl, rfl, f1⟩
set_option maxRecDepth 20000 in
set_option maxHeartbeats 1000000 in
theorem c_marks {S : Nat × (Nat → Int32)} {d n : Nat} {ξ : Nat → Nat → Int32} {ρ : zRho} {K : zCs} (h : zXR ξ 1 K) (hK : zOK K) : Zc S (d + 8) jX5_marks [.ref 0] (zWof n ξ ρ) (fun r w => ∃ ξ2, w = zWof n ξ2 ρ ∧ r = some (.int ((K.go 60).sum)) ∧ zfrA 23 ξ ξ2) := by
  have hd3 := hK.d3
  have hm6 := hK.m6
  have ht60 := hK.t60
  refine Zc_in (q := (5, 0, 1, 0, 1, 0, 0, zk_X5_marks)) rfl (Nat.le_of_ble_eq_true rfl) (L := [_]) rfl ?_
  refine zr_aload_n 1 rfl rfl rfl trivial ?_
  refine zr_callv 4 (As := []) (u2 := (0, 0)) rfl rfl rfl rfl rfl rfl rfl (Nat.le_of_ble_eq_true rfl) (Nat.le_of_ble_eq_true rfl) (Nat.le_of_ble_eq_true rfl) rfl (c_tryAsItIs h hK) rfl (fun v2 w2 h1z => ?_)
  obtain ⟨rfl, ξ1, rfl, x1, f1⟩ := h1z
  refine zr_aload_n 5 rfl rfl rfl trivial ?_
  refine zr_getf 8 rfl rfl rfl rfl rfl ?_
  refine zr_callv 11 (As := []) (u2 := (0, 0)) rfl rfl rfl rfl rfl rfl rfl (Nat.le_of_ble_eq_true rfl) (Nat.le_of_ble_eq_true rfl) (Nat.le_of_ble_eq_true rfl) rfl (k_sum zc23 x1 hm6) rfl (fun v2 w2 h8z => ?_)
  obtain ⟨rfl, rfl⟩ := h8z
  refine zr_iret rfl rfl ?_
  exact ⟨ξ1, rfl, rfl, f1⟩
def zCs.gl (K : zCs) (i : Nat) : Nat := zgoalF K.dd K.dp (K.p i 2) (K.p i 3) (nI K.T) K.D 0
def zCs.gday (K : zCs) (i : Nat) : Int32 := zgdayF K.dd K.D (K.law 0) (K.gl i)
def zCs.gleft (K : zCs) (i : Nat) : Int32 := zghrsF K.dp K.D (K.p i 2) (K.gl i) - K.p i 3
def zCs.hrs (K : zCs) (i : Nat) : Int32 := zhrsF K.dd K.dp K.D (K.law 0) (K.law 1) (K.p i 0) (K.p i 1) (K.p i 2) (K.p i 3) (K.p i 4) (nI K.T)
def zCs.goal (K : zCs) (x what : Int32) : Int32 := if what < 0 ∨ 3 < what then -1 else zper K x (fun i => if ¬ K.p i 5 = -9 ∨ 60 ≤ K.T then -4 else if what = 0 then K.gday i else if what = 1 then K.gleft i else if what = 2 then ztogoF (K.gday i) (nI K.T) else K.hrs i)
set_option maxRecDepth 20000 in
set_option maxHeartbeats 1000000 in
theorem c_goal {S : Nat × (Nat → Int32)} {d n : Nat} {ξ : Nat → Nat → Int32} {ρ : zRho} {K : zCs} (h : zXR ξ 1 K) (hK : zOK K) (x what : Int32) : Zc S (d + 4) jX5_goal [.ref 0, .int x, .int what] (zWof n ξ ρ) (fun r w => r = some (.int (K.goal x what)) ∧ w = zWof n ξ ρ) := by
  have hd3 := hK.d3
  have hm6 := hK.m6
  have ht60 := hK.t60
  refine Zc_in (q := (5, 0, 1, 2, 5, 0, 0, zk_X5_goal)) rfl (Nat.le_of_ble_eq_true rfl) (L := [_, _, _, _, _]) rfl ?_
  refine zr_aload_n 1 rfl rfl rfl trivial ?_
  refine zr_iload_n 2 rfl rfl rfl ?_
  refine zr_callv 5 (As := [_]) (u2 := (0, 0)) rfl rfl rfl rfl rfl rfl rfl (Nat.le_of_ble_eq_true rfl) (Nat.le_of_ble_eq_true rfl) (Nat.le_of_ble_eq_true rfl) rfl (c_isPerson _) rfl (fun v2 w2 h2z => ?_)
  obtain ⟨rfl, rfl⟩ := h2z
  refine zr_if_eq 17 8 rfl rfl (by decide) (fun c5z => ?_) (fun c5z => ?_)
  · replace c5z := zb_0.mp c5z
    refine zr_iconst 18 (x := (-1)) rfl rfl (by decide) ?_
    refine zr_iret rfl rfl ?_
    refine ⟨?_, rfl⟩
    unfold zCs.goal
    by_cases q : what < 0 ∨ 3 < what
    · rw [if_pos q]
    · rw [if_neg q, zper_out h.hm _ c5z]
  · replace c5z := zb_n0.mp c5z
    refine zr_iload_n 9 rfl rfl rfl ?_
    refine zr_if_lt 17 12 rfl rfl (by decide) (fun c9z => ?_) (fun c9z => ?_)
    · refine zr_iconst 18 (x := (-1)) rfl rfl (by decide) ?_
      refine zr_iret rfl rfl ?_
      refine ⟨?_, rfl⟩
      unfold zCs.goal
      rw [if_pos (Or.inl c9z)]
    · refine zr_iload_n 13 rfl rfl rfl ?_
      refine zr_iconst 14 (x := 3) rfl rfl (by decide) ?_
      refine zr_icmp_le 19 17 rfl rfl (by decide) (fun c14z => ?_) (fun c14z => ?_)
      · obtain ⟨i, hi, rfl⟩ := zperI h.hm (by omega) c5z
        have hw : ¬ (what < 0 ∨ 3 < what) := by
          rintro (q | q)
          · exact c9z q
          · exact absurd c14z (Int32.not_le.mpr q)
        have e2 := h.hp i hi 2 (by decide)
        have e3 := h.hp i hi 3 (by decide)
        have e5 := h.hp i hi 5 (by decide)
        have eg : zgoalF (ξ 3) (ξ 4) (ξ (1 + 5 + i) 2) (ξ (1 + 5 + i) 3) (ξ 1 6) K.D 0 = K.gl i := by
          unfold zCs.gl
          rw [e2, e3, h.ht]
          exact zgoalF_cg0 h.hdd h.hdp
        have hgl := (zgoalF_le K.dd K.dp (K.p i 2) (K.p i 3) (nI K.T) K.D 0).2
        have hgl2 : K.gl i ≤ K.D := by
          unfold zCs.gl
          omega
        refine Zw_mono (Q := fun r w => r = some (.int (if ¬ K.p i 5 = -9 ∨ 60 ≤ K.T then -4 else if what = 0 then K.gday i else if what = 1 then K.gleft i else if what = 2 then ztogoF (K.gday i) (nI K.T) else K.hrs i)) ∧ w = zWof n ξ ρ) ?_ (fun r w q => by
          unfold zCs.goal
          rw [if_neg hw, zper_in hm6 hi]
          exact q)
        refine zr_aload_n 20 rfl rfl rfl trivial ?_
        refine zr_getf 23 rfl rfl rfl rfl rfl ?_
        refine zr_getf 26 rfl rfl rfl (zc_co zc1) rfl ?_
        refine zr_iload_n 27 rfl rfl rfl ?_
        refine zr_aald 28 rfl rfl rfl (by decide) (nI_clamp (by omega)) (vp_in_nI (by omega) (by omega)) (zrf_ps (by omega)) ?_
        refine zr_astore_n 29 (L2 := [_, _, _, _, _]) rfl rfl trivial (Nat.le_of_ble_eq_true rfl) (by first | exact trivial | exact rfl) rfl ?_
        refine zr_aload_n 30 rfl rfl rfl trivial ?_
        refine zr_callv 33 (As := []) (u2 := (0, 0)) rfl rfl rfl rfl rfl rfl rfl (Nat.le_of_ble_eq_true rfl) (Nat.le_of_ble_eq_true rfl) (Nat.le_of_ble_eq_true rfl) (zc_pe (zP zc1 (by omega))) (c_hasHanded (zP zc1 (by omega))) rfl (fun v2 w2 h30z => ?_)
        obtain ⟨rfl, rfl⟩ := h30z
        refine zr_if_ne 48 36 rfl rfl (by decide) (fun c33z => ?_) (fun c33z => ?_)
        · replace c33z := zb_n0.mp c33z
          refine zr_bipush 50 (x := (-4)) rfl rfl (by decide) ?_
          refine zr_iret rfl rfl ?_
          refine ⟨?_, rfl⟩
          rw [if_pos (Or.inl (by rw [← e5]; exact c33z))]
        · replace c33z := zb_0.mp c33z
          refine zr_aload_n 37 rfl rfl rfl trivial ?_
          refine zr_getf 40 rfl rfl rfl rfl rfl ?_
          refine zr_getf 43 rfl rfl rfl (zc_co zc1) rfl ?_
          refine zr_bipush 45 (x := 60) rfl rfl (by decide) ?_
          refine zr_icmp_lt 51 48 rfl rfl (by decide) (fun c45z => ?_) (fun c45z => ?_)
          · have hs : ¬ (¬ K.p i 5 = -9 ∨ 60 ≤ K.T) := by
              rintro (q | q)
              · exact q (by rw [← e5]; exact Decidable.not_not.mp c33z)
              · rw [h.ht] at c45z
                have := (nI_ltI (b := 60) (by omega) (by decide)).mp c45z
                omega
            rw [if_neg hs]
            refine zr_aload_n 52 rfl rfl rfl trivial ?_
            refine zr_getf 55 rfl rfl rfl rfl rfl ?_
            refine zr_aload_n 56 rfl rfl rfl trivial ?_
            refine zr_aload_n 57 rfl rfl rfl trivial ?_
            refine zr_getf 60 rfl rfl rfl rfl rfl ?_
            refine zr_getf 63 rfl rfl rfl (zc_co zc1) rfl ?_
            refine zr_callv 66 (As := [_, _]) (u2 := (0, 0)) rfl rfl rfl rfl rfl rfl rfl (Nat.le_of_ble_eq_true rfl) (Nat.le_of_ble_eq_true rfl) (Nat.le_of_ble_eq_true rfl) (zc_co zc1) (c_goalIndex zc1 (zP zc1 (by omega)) h.hd hd3 _) rfl (fun v2 w2 h63z => ?_)
            obtain ⟨rfl, rfl⟩ := h63z
            refine zr_istore 68 (L2 := [_, _, _, _, _]) rfl rfl (Nat.le_of_ble_eq_true rfl) (by first | exact trivial | exact rfl) rfl ?_
            rw [eg]
            refine zr_iload_n 69 rfl rfl rfl ?_
            by_cases s69_0 : what = 0
            · refine zr_tsw_in 96 0 rfl (by rw [s69_0]; decide) (by decide) rfl (by decide) ?_
              refine zr_aload_n 97 rfl rfl rfl trivial ?_
              refine zr_getf 100 rfl rfl rfl rfl rfl ?_
              refine zr_iload 102 rfl rfl rfl ?_
              refine zr_callv 105 (As := [_]) (u2 := (0, 0)) rfl rfl rfl rfl rfl rfl rfl (Nat.le_of_ble_eq_true rfl) (Nat.le_of_ble_eq_true rfl) (Nat.le_of_ble_eq_true rfl) (zc_co zc1) (c_goalDay zc1 h.hd hd3 hgl2) rfl (fun v2 w2 h102z => ?_)
              obtain ⟨rfl, rfl⟩ := h102z
              refine zr_iret rfl rfl ?_
              refine ⟨?_, rfl⟩
              rw [if_pos s69_0]
              unfold zCs.gday
              rw [zgdayF_cg h.hdd, h.hl 0 (by decide)]
            by_cases s69_1 : what = 1
            · refine zr_tsw_in 106 1 rfl (by rw [s69_1]; decide) (by decide) rfl (by decide) ?_
              refine zr_aload_n 107 rfl rfl rfl trivial ?_
              refine zr_getf 110 rfl rfl rfl rfl rfl ?_
              refine zr_iload 112 rfl rfl rfl ?_
              refine zr_aload_n 113 rfl rfl rfl trivial ?_
              refine zr_callv 116 (As := [_, _]) (u2 := (0, 0)) rfl rfl rfl rfl rfl rfl rfl (Nat.le_of_ble_eq_true rfl) (Nat.le_of_ble_eq_true rfl) (Nat.le_of_ble_eq_true rfl) (zc_co zc1) (c_leftTo zc1 (zP zc1 (by omega)) h.hd hd3 hgl2) rfl (fun v2 w2 h113z => ?_)
              obtain ⟨rfl, rfl⟩ := h113z
              refine zr_iret rfl rfl ?_
              refine ⟨?_, rfl⟩
              rw [if_neg s69_0, if_pos s69_1]
              unfold zCs.gleft
              rw [zghrsF_cg h.hdp, e2, e3]
            by_cases s69_2 : what = 2
            · refine zr_tsw_in 117 2 rfl (by rw [s69_2]; decide) (by decide) rfl (by decide) ?_
              refine zr_aload_n 118 rfl rfl rfl trivial ?_
              refine zr_getf 121 rfl rfl rfl rfl rfl ?_
              refine zr_iload 123 rfl rfl rfl ?_
              refine zr_aload_n 124 rfl rfl rfl trivial ?_
              refine zr_getf 127 rfl rfl rfl rfl rfl ?_
              refine zr_getf 130 rfl rfl rfl (zc_co zc1) rfl ?_
              refine zr_callv 133 (As := [_, _]) (u2 := (0, 0)) rfl rfl rfl rfl rfl rfl rfl (Nat.le_of_ble_eq_true rfl) (Nat.le_of_ble_eq_true rfl) (Nat.le_of_ble_eq_true rfl) (zc_co zc1) (c_toGo zc1 h.hd hd3 hgl2 _) rfl (fun v2 w2 h130z => ?_)
              obtain ⟨rfl, rfl⟩ := h130z
              refine zr_iret rfl rfl ?_
              refine ⟨?_, rfl⟩
              rw [if_neg s69_0, if_neg s69_1, if_pos s69_2]
              unfold zCs.gday
              rw [zgdayF_cg h.hdd, h.hl 0 (by decide), h.ht]
            refine zr_tsw_out 134 rfl (by have q0 := zne_i s69_0; have q1 := zne_i s69_1; have q2 := zne_i s69_2; rw [show (0 : Int32).toInt = 0 by decide] at q0; rw [show (1 : Int32).toInt = 1 by decide] at q1; rw [show (2 : Int32).toInt = 2 by decide] at q2; omega) (by decide) ?_
            refine zr_aload_n 135 rfl rfl rfl trivial ?_
            refine zr_getf 138 rfl rfl rfl rfl rfl ?_
            refine zr_aload_n 139 rfl rfl rfl trivial ?_
            refine zr_aload_n 140 rfl rfl rfl trivial ?_
            refine zr_getf 143 rfl rfl rfl rfl rfl ?_
            refine zr_getf 146 rfl rfl rfl (zc_co zc1) rfl ?_
            refine zr_callv 149 (As := [_, _]) (u2 := (0, 0)) rfl rfl rfl rfl rfl rfl rfl (Nat.le_of_ble_eq_true rfl) (Nat.le_of_ble_eq_true rfl) (Nat.le_of_ble_eq_true rfl) (zc_co zc1) (c_hoursOn zc1 (zP zc1 (by omega)) h.hd hd3 _ (fun j => by rw [h.ht]; exact zgok_z (h.gok hK) ht60 j)) rfl (fun v2 w2 h146z => ?_)
            obtain ⟨rfl, rfl⟩ := h146z
            refine zr_iret rfl rfl ?_
            refine ⟨?_, rfl⟩
            rw [if_neg s69_0, if_neg s69_1, if_neg s69_2]
            unfold zCs.hrs
            rw [← zhrsF_cg h.hdd h.hdp, ← h.hl 0 (by decide), ← h.hl 1 (by decide), ← e2, ← e3, ← h.hp i hi 0 (by decide), ← h.hp i hi 1 (by decide), ← h.hp i hi 4 (by decide), ← h.ht]
            unfold zhrsF
            by_cases qi : ξ 1 6 < 30 ∧ ξ (1 + 5 + i) 4 >>> (ξ 1 6 &&& 31) &&& 1 = 1
            · rw [if_pos (Or.inr qi), if_pos qi]
            · rw [if_neg (fun z => z.elim c33z qi), if_neg qi]
          · refine zr_bipush 50 (x := (-4)) rfl rfl (by decide) ?_
            refine zr_iret rfl rfl ?_
            refine ⟨?_, rfl⟩
            rw [if_pos (Or.inr ?_)]
            rw [h.ht] at c45z
            exact Nat.le_of_not_lt (fun q => c45z ((nI_ltI (b := 60) (by omega) (by decide)).mpr q))
      · refine zr_iconst 18 (x := (-1)) rfl rfl (by decide) ?_
        refine zr_iret rfl rfl ?_
        refine ⟨?_, rfl⟩
        unfold zCs.goal
        rw [if_pos (Or.inr (Int32.not_le.mp c14z))]
