set_option maxRecDepth 20000 in
set_option maxHeartbeats 1000000 in
theorem c_MmoveK {S : Nat × (Nat → Int32)} {d n : Nat} {ξ : Nat → Nat → Int32} {ρ : zRho} {a len m q : Nat} (hc : ∀ ρ f, zcel ρ a f = zai len f) (ha : a ≠ 42) (ha2 : a ≠ 68) (hm : m ≤ len) (hl : len ≤ 100) (ho : ξ 42 49 = nI q) (hq : q + m ≤ 70) : Zc S (d + 1) jX6_moveRow [.ref 42, .ref a, .int (nI m), .int 1] (zWof n ξ ρ) (fun r w => r = none ∧ ∃ ξ2, w = zWof n ξ2 ρ ∧ ξ2 42 49 = nI (q + m) ∧ (∀ k, k < m → ξ2 68 (q + k) = ξ a k) ∧ (∀ k, (k < q ∨ q + m ≤ k) → ξ2 68 k = ξ 68 k) ∧ (∀ k, k ≠ 49 → ξ2 42 k = ξ 42 k) ∧ ∀ b, b ≠ 42 → b ≠ 68 → ξ2 b = ξ b) := by
  refine Zc_in (q := (6, 0, 0, 3, 5, 0, 0, zk_X6_moveRow)) rfl (Nat.le_of_ble_eq_true rfl) (L := [_, _, _, _, _]) rfl ?_
  have key : ∀ (k : Nat) (j : Nat) (ξ1 : Nat → Nat → Int32), m - j = k → j ≤ m → ξ1 42 49 = nI (q + j) → (∀ k, k < j → ξ1 68 (q + k) = ξ a k) → (∀ k, (k < q ∨ q + j ≤ k) → ξ1 68 k = ξ 68 k) → (∀ k, k ≠ 49 → ξ1 42 k = ξ 42 k) → (∀ b, b ≠ 42 → b ≠ 68 → ξ1 b = ξ b) →  Zw S (Zc S d) 6 false 0 zk_X6_moveRow (fun r w => r = none ∧ ∃ ξ2, w = zWof n ξ2 ρ ∧ ξ2 42 49 = nI (q + m) ∧ (∀ k, k < m → ξ2 68 (q + k) = ξ a k) ∧ (∀ k, (k < q ∨ q + m ≤ k) → ξ2 68 k = ξ 68 k) ∧ (∀ k, k ≠ 49 → ξ2 42 k = ξ 42 k) ∧ ∀ b, b ≠ 42 → b ≠ 68 → ξ2 b = ξ b) (3, [some (.ref 42), some (.ref a), some (.int (nI m)), some (.int 1), some (.int (nI j))], [], (0, 0), zWof n ξ1 ρ) := by
    intro k
    induction k using Nat.strongRecOn with
    | ind k ih =>
      intro j ξ1 hk hj e49 g1 g2 g3 g4
      refine zr_iload 5 rfl rfl rfl ?_
      refine zr_iload_n 6 rfl rfl rfl ?_
      refine zr_icmp_ge 58 9 rfl rfl (by decide) (fun c6z => ?_) (fun c6z => ?_)
      · rw [nI_leI (by omega) (by omega)] at c6z
        refine zr_ret rfl rfl ?_
        exact ⟨rfl, ξ1, rfl, by rw [e49, show j = m by omega], fun k hk => g1 k (by omega), fun k hk => g2 k (by omega), g3, g4⟩
      · rw [nI_leI (by omega) (by omega)] at c6z
        refine zr_iload_n 10 rfl rfl rfl ?_
        refine zr_if_eq 29 13 rfl rfl (by decide) (fun c10z => ?_) (fun c10z => ?_)
        · exact absurd c10z (by decide)
        · refine zr_aload_n 14 rfl rfl rfl trivial ?_
          refine zr_getf 17 rfl rfl rfl rfl rfl ?_
          refine zr_aload_n 18 rfl rfl rfl trivial ?_
          refine zr_getf 21 rfl rfl rfl rfl rfl ?_
          rw [e49]
          refine zr_aload_n 22 rfl rfl rfl trivial ?_
          refine zr_iload 24 rfl rfl rfl ?_
          refine zr_iald 25 rfl rfl (hc _ _) (nI_clamp (by omega)) (vp_in_nI (by omega) (by omega)) ?_
          refine zr_iast 26 rfl rfl rfl (nI_clamp (by omega)) (vp_in_nI (by omega) (by omega)) (zW_set rfl) ?_
          refine zr_goto 42 rfl (by decide) ?_
          refine zr_aload_n 43 rfl rfl rfl trivial ?_
          refine zr_dup 44 rfl rfl rfl ?_
          refine zr_getf 47 rfl rfl rfl rfl rfl ?_
          refine zr_iconst 48 (x := 1) rfl rfl (by decide) ?_
          rw [show zu ξ1 68 (q + j) (ξ1 a j) 42 49 = nI (q + j) from e49]
          refine zr_iadd 49 rfl rfl ?_
          rw [nI_1]
          refine zr_putf 52 rfl rfl rfl rfl (Nat.le_of_ble_eq_true rfl) rfl trivial (fun h => by cases h) (zW_set (k := 49) rfl) ?_
          refine zr_iinc 55 (c0 := 1) (L2 := [_, _, _, _, _]) rfl rfl rfl (by first | exact trivial | exact rfl) (by decide) rfl ?_
          refine zr_goto 3 rfl (by decide) ?_
          rw [nI_1]
          refine ih _ (by omega) (j + 1) _ rfl (by omega) (zu_same _ _ _ _) (fun k hk => ?_) (fun k hk => ?_) (fun k hk => by rw [zu_ne (Or.inr hk), zun (by decide)]; exact g3 k hk) (fun b b1 b2 => by rw [zun b1, zun b2]; exact g4 b b1 b2)
          · rw [zun (by decide)]
            by_cases z : k = j
            · subst z
              rw [zu_same, g4 a ha ha2]
            · rw [zu_ne (Or.inr (by omega))]
              exact g1 k (by omega)
          · rw [zun (by decide), zu_ne (Or.inr (by omega))]
            exact g2 k (by omega)
  refine zr_iconst 1 (x := 0) rfl rfl (by decide) ?_
  refine zr_istore 3 (L2 := [_, _, _, _, _]) rfl rfl (Nat.le_of_ble_eq_true rfl) (by first | exact trivial | exact rfl) rfl ?_
  exact key _ 0 ξ rfl (Nat.zero_le _) ho (fun k hk => absurd hk (Nat.not_lt_zero _)) (fun _ _ => rfl) (fun _ _ => rfl) (fun _ _ _ => rfl)
set_option maxRecDepth 20000 in
set_option maxHeartbeats 1000000 in
theorem c_MmoveB {S : Nat × (Nat → Int32)} {d n : Nat} {ξ : Nat → Nat → Int32} {ρ : zRho} {a len m q : Nat} (hc : ∀ ρ f, zcel ρ a f = zai len f) (ha : a ≠ 42) (ha2 : a ≠ 68) (hm : m ≤ len) (hl : len ≤ 100) (ho : ξ 42 49 = nI q) (hq : q + m ≤ 70) : Zc S (d + 1) jX6_moveRow [.ref 42, .ref a, .int (nI m), .int 0] (zWof n ξ ρ) (fun r w => r = none ∧ ∃ ξ2, w = zWof n ξ2 ρ ∧ ξ2 42 49 = nI (q + m) ∧ (∀ k, k < m → ξ2 a k = ξ 68 (q + k)) ∧ (∀ k, k ≠ 49 → ξ2 42 k = ξ 42 k) ∧ ∀ b, b ≠ 42 → b ≠ a → ξ2 b = ξ b) := by
  refine Zc_in (q := (6, 0, 0, 3, 5, 0, 0, zk_X6_moveRow)) rfl (Nat.le_of_ble_eq_true rfl) (L := [_, _, _, _, _]) rfl ?_
  have key : ∀ (k : Nat) (j : Nat) (ξ1 : Nat → Nat → Int32), m - j = k → j ≤ m → ξ1 42 49 = nI (q + j) → (∀ k, k < j → ξ1 a k = ξ 68 (q + k)) → (∀ k, k ≠ 49 → ξ1 42 k = ξ 42 k) → (∀ b, b ≠ 42 → b ≠ a → ξ1 b = ξ b) →  Zw S (Zc S d) 6 false 0 zk_X6_moveRow (fun r w => r = none ∧ ∃ ξ2, w = zWof n ξ2 ρ ∧ ξ2 42 49 = nI (q + m) ∧ (∀ k, k < m → ξ2 a k = ξ 68 (q + k)) ∧ (∀ k, k ≠ 49 → ξ2 42 k = ξ 42 k) ∧ ∀ b, b ≠ 42 → b ≠ a → ξ2 b = ξ b) (3, [some (.ref 42), some (.ref a), some (.int (nI m)), some (.int 0), some (.int (nI j))], [], (0, 0), zWof n ξ1 ρ) := by
    intro k
    induction k using Nat.strongRecOn with
    | ind k ih =>
      intro j ξ1 hk hj e49 g1 g3 g4
      refine zr_iload 5 rfl rfl rfl ?_
      refine zr_iload_n 6 rfl rfl rfl ?_
      refine zr_icmp_ge 58 9 rfl rfl (by decide) (fun c6z => ?_) (fun c6z => ?_)
      · rw [nI_leI (by omega) (by omega)] at c6z
        refine zr_ret rfl rfl ?_
        exact ⟨rfl, ξ1, rfl, by rw [e49, show j = m by omega], fun k hk => g1 k (by omega), g3, g4⟩
      · rw [nI_leI (by omega) (by omega)] at c6z
        refine zr_iload_n 10 rfl rfl rfl ?_
        refine zr_if_eq 29 13 rfl rfl (by decide) (fun c10z => ?_) (fun c10z => ?_)
        · refine zr_aload_n 30 rfl rfl rfl trivial ?_
          refine zr_iload 32 rfl rfl rfl ?_
          refine zr_aload_n 33 rfl rfl rfl trivial ?_
          refine zr_getf 36 rfl rfl rfl rfl rfl ?_
          refine zr_aload_n 37 rfl rfl rfl trivial ?_
          refine zr_getf 40 rfl rfl rfl rfl rfl ?_
          rw [e49]
          refine zr_iald 41 rfl rfl rfl (nI_clamp (by omega)) (vp_in_nI (by omega) (by omega)) ?_
          refine zr_iast 42 rfl rfl (hc _ _) (nI_clamp (by omega)) (vp_in_nI (by omega) (by omega)) (zW_set (hc _ _).symm) ?_
          refine zr_aload_n 43 rfl rfl rfl trivial ?_
          refine zr_dup 44 rfl rfl rfl ?_
          refine zr_getf 47 rfl rfl rfl rfl rfl ?_
          refine zr_iconst 48 (x := 1) rfl rfl (by decide) ?_
          rw [zun (Ne.symm ha), e49]
          refine zr_iadd 49 rfl rfl ?_
          rw [nI_1]
          refine zr_putf 52 rfl rfl rfl rfl (Nat.le_of_ble_eq_true rfl) rfl trivial (fun h => by cases h) (zW_set (k := 49) rfl) ?_
          refine zr_iinc 55 (c0 := 1) (L2 := [_, _, _, _, _]) rfl rfl rfl (by first | exact trivial | exact rfl) (by decide) rfl ?_
          refine zr_goto 3 rfl (by decide) ?_
          rw [nI_1]
          refine ih _ (by omega) (j + 1) _ rfl (by omega) (zu_same _ _ _ _) (fun k hk => ?_) (fun k hk => by rw [zu_ne (Or.inr hk), zun (Ne.symm ha)]; exact g3 k hk) (fun b b1 b2 => by rw [zun b1, zun b2]; exact g4 b b1 b2)
          rw [zun ha]
          by_cases z : k = j
          · subst z
            rw [zu_same, g4 68 (by decide) (Ne.symm ha2)]
          · rw [zu_ne (Or.inr z)]
            exact g1 k (by omega)
        · exact absurd rfl c10z
  refine zr_iconst 1 (x := 0) rfl rfl (by decide) ?_
  refine zr_istore 3 (L2 := [_, _, _, _, _]) rfl rfl (Nat.le_of_ble_eq_true rfl) (by first | exact trivial | exact rfl) rfl ?_
  exact key _ 0 ξ rfl (Nat.zero_le _) ho (fun k hk => absurd hk (Nat.not_lt_zero _)) (fun _ _ => rfl) (fun _ _ _ => rfl)
abbrev zMK (ξ : Nat → Nat → Int32) (K : zCs) : Prop := ξ 68 0 = nI K.M ∧ ξ 68 1 = nI K.D ∧ ξ 68 2 = K.z ∧ (∀ i, i < 5 → ξ 68 (3 + i) = K.law i) ∧ (∀ i, i < K.D → ξ 68 (8 + i) = K.dd i) ∧ (∀ i, i < K.D → ξ 68 (11 + i) = K.dp i) ∧ (∀ i, i < K.M → ξ 68 (14 + i) = K.p i 0 ∧ ξ 68 (20 + i) = K.p i 1 ∧ ξ 68 (26 + i) = K.p i 2 ∧ ξ 68 (32 + i) = K.p i 4) ∧ ξ 68 38 = nI K.T ∧ ∀ i, i < K.M → ξ 68 (38 + (1 + i)) = K.p i 3 ∧ ξ 68 (38 + (7 + i)) = zhd (K.p i 5) ∧ ξ 68 (38 + (13 + i)) = K.p i 6
set_option maxRecDepth 20000 in
set_option maxHeartbeats 1000000 in
theorem c_MmoveAllK {S : Nat × (Nat → Int32)} {d n : Nat} {ξ : Nat → Nat → Int32} {ρ : zRho} {K : zCs} (h : zMR ξ 0 K) (hK : zOK K) : Zc S (d + 2) jX6_moveAll [.ref 42, .int 1] (zWof n ξ ρ) (fun r w => r = none ∧ ∃ ξ2, w = zWof n ξ2 ρ ∧ zMK ξ2 K ∧ (∀ k, k ≠ 49 → ξ2 42 k = ξ 42 k) ∧ ∀ b, b ≠ 42 → b ≠ 68 → b ≠ 69 → ξ2 b = ξ b) := by
  have hd3 := hK.d3
  have hm6 := hK.m6
  have ht60 := hK.t60
  refine Zc_in (q := (6, 0, 0, 1, 2, 0, 0, zk_X6_moveAll)) rfl (Nat.le_of_ble_eq_true rfl) (L := [_, _]) rfl ?_
  refine zr_aload_n 1 rfl rfl rfl trivial ?_
  refine zr_iconst 2 (x := 0) rfl rfl (by decide) ?_
  refine zr_putf 5 rfl rfl rfl rfl (Nat.le_of_ble_eq_true rfl) rfl trivial (fun h => by cases h) (zW_set (k := 49) rfl) ?_
  refine zr_aload_n 6 rfl rfl rfl trivial ?_
  refine zr_getf 9 rfl rfl rfl rfl rfl ?_
  refine zr_iconst 10 (x := 0) rfl rfl (by decide) ?_
  refine zr_aload_n 11 rfl rfl rfl trivial ?_
  refine zr_getf 14 rfl rfl rfl rfl rfl ?_
  refine zr_iast 15 (i := 0) rfl rfl rfl (by decide) (by unfold vp_in; decide) (zW_set rfl) ?_
  refine zr_aload_n 16 rfl rfl rfl trivial ?_
  refine zr_getf 19 rfl rfl rfl rfl rfl ?_
  refine zr_iconst 20 (x := 1) rfl rfl (by decide) ?_
  refine zr_aload_n 21 rfl rfl rfl trivial ?_
  refine zr_getf 24 rfl rfl rfl rfl rfl ?_
  refine zr_iast 25 (i := 1) rfl rfl rfl (by decide) (by unfold vp_in; decide) (zW_set rfl) ?_
  refine zr_aload_n 26 rfl rfl rfl trivial ?_
  refine zr_getf 29 rfl rfl rfl rfl rfl ?_
  refine zr_iconst 30 (x := 2) rfl rfl (by decide) ?_
  refine zr_aload_n 31 rfl rfl rfl trivial ?_
  refine zr_getf 34 rfl rfl rfl rfl rfl ?_
  refine zr_iast 35 (i := 2) rfl rfl rfl (by decide) (by unfold vp_in; decide) (zW_set rfl) ?_
  have h49 : (zu (zu (zu (zu ξ 42 49 0) 69 0 (ξ 42 4)) 69 1 (ξ 42 1)) 69 2 (ξ 42 11)) 42 49 = nI 0 := zu_same ξ 42 49 0
  have z0 : ∀ {k : Nat} {v : Int32}, ξ 50 (0 + k) = v → ξ 50 k = v := fun {k v} q => by rw [Nat.zero_add] at q; exact q
  refine zr_aload_n 36 rfl rfl rfl trivial ?_
  refine zr_aload_n 37 rfl rfl rfl trivial ?_
  refine zr_getf 40 rfl rfl rfl rfl rfl ?_
  refine zr_iconst 41 (x := 3) rfl rfl (by decide) ?_
  refine zr_iload_n 42 rfl rfl rfl ?_
  refine zr_callv 45 (As := [_, _, _]) (u2 := (0, 0)) rfl rfl rfl rfl rfl rfl rfl (Nat.le_of_ble_eq_true rfl) (Nat.le_of_ble_eq_true rfl) (Nat.le_of_ble_eq_true rfl) rfl (c_MmoveK (a := 69) (len := 3) (m := 3) (q := 0) (fun _ _ => rfl) (by decide) (by decide) (by decide) (by decide) h49 (by decide)) rfl (fun v2 w2 h42z => ?_)
  obtain ⟨rfl, y0, rfl, e0, a0, b0, c0, d0⟩ := h42z
  refine zr_aload_n 46 rfl rfl rfl trivial ?_
  refine zr_aload_n 47 rfl rfl rfl trivial ?_
  refine zr_getf 50 rfl rfl rfl rfl rfl ?_
  refine zr_iconst 51 (x := 5) rfl rfl (by decide) ?_
  refine zr_iload_n 52 rfl rfl rfl ?_
  refine zr_callv 55 (As := [_, _, _]) (u2 := (0, 0)) rfl rfl rfl rfl rfl rfl rfl (Nat.le_of_ble_eq_true rfl) (Nat.le_of_ble_eq_true rfl) (Nat.le_of_ble_eq_true rfl) rfl (c_MmoveK (a := 43) (len := 5) (m := 5) (q := 3) (fun _ _ => rfl) (by decide) (by decide) (by decide) (by decide) e0 (by decide)) rfl (fun v2 w2 h52z => ?_)
  obtain ⟨rfl, y1, rfl, e1, a1, b1, c1, d1⟩ := h52z
  refine zr_aload_n 56 rfl rfl rfl trivial ?_
  refine zr_aload_n 57 rfl rfl rfl trivial ?_
  refine zr_getf 60 rfl rfl rfl rfl rfl ?_
  refine zr_iconst 61 (x := 3) rfl rfl (by decide) ?_
  refine zr_iload_n 62 rfl rfl rfl ?_
  refine zr_callv 65 (As := [_, _, _]) (u2 := (0, 0)) rfl rfl rfl rfl rfl rfl rfl (Nat.le_of_ble_eq_true rfl) (Nat.le_of_ble_eq_true rfl) (Nat.le_of_ble_eq_true rfl) rfl (c_MmoveK (a := 44) (len := 4) (m := 3) (q := 8) (fun _ _ => rfl) (by decide) (by decide) (by decide) (by decide) e1 (by decide)) rfl (fun v2 w2 h62z => ?_)
  obtain ⟨rfl, y2, rfl, e2, a2, b2, c2, d2⟩ := h62z
  refine zr_aload_n 66 rfl rfl rfl trivial ?_
  refine zr_aload_n 67 rfl rfl rfl trivial ?_
  refine zr_getf 70 rfl rfl rfl rfl rfl ?_
  refine zr_iconst 71 (x := 3) rfl rfl (by decide) ?_
  refine zr_iload_n 72 rfl rfl rfl ?_
  refine zr_callv 75 (As := [_, _, _]) (u2 := (0, 0)) rfl rfl rfl rfl rfl rfl rfl (Nat.le_of_ble_eq_true rfl) (Nat.le_of_ble_eq_true rfl) (Nat.le_of_ble_eq_true rfl) rfl (c_MmoveK (a := 45) (len := 4) (m := 3) (q := 11) (fun _ _ => rfl) (by decide) (by decide) (by decide) (by decide) e2 (by decide)) rfl (fun v2 w2 h72z => ?_)
  obtain ⟨rfl, y3, rfl, e3, a3, b3, c3, d3⟩ := h72z
  refine zr_aload_n 76 rfl rfl rfl trivial ?_
  refine zr_aload_n 77 rfl rfl rfl trivial ?_
  refine zr_getf 80 rfl rfl rfl rfl rfl ?_
  refine zr_bipush 82 (x := 6) rfl rfl (by decide) ?_
  refine zr_iload_n 83 rfl rfl rfl ?_
  refine zr_callv 86 (As := [_, _, _]) (u2 := (0, 0)) rfl rfl rfl rfl rfl rfl rfl (Nat.le_of_ble_eq_true rfl) (Nat.le_of_ble_eq_true rfl) (Nat.le_of_ble_eq_true rfl) rfl (c_MmoveK (a := 46) (len := 6) (m := 6) (q := 14) (fun _ _ => rfl) (by decide) (by decide) (by decide) (by decide) e3 (by decide)) rfl (fun v2 w2 h83z => ?_)
  obtain ⟨rfl, y4, rfl, e4, a4, b4, c4, d4⟩ := h83z
  refine zr_aload_n 87 rfl rfl rfl trivial ?_
  refine zr_aload_n 88 rfl rfl rfl trivial ?_
  refine zr_getf 91 rfl rfl rfl rfl rfl ?_
  refine zr_bipush 93 (x := 6) rfl rfl (by decide) ?_
  refine zr_iload_n 94 rfl rfl rfl ?_
  refine zr_callv 97 (As := [_, _, _]) (u2 := (0, 0)) rfl rfl rfl rfl rfl rfl rfl (Nat.le_of_ble_eq_true rfl) (Nat.le_of_ble_eq_true rfl) (Nat.le_of_ble_eq_true rfl) rfl (c_MmoveK (a := 47) (len := 6) (m := 6) (q := 20) (fun _ _ => rfl) (by decide) (by decide) (by decide) (by decide) e4 (by decide)) rfl (fun v2 w2 h94z => ?_)
  obtain ⟨rfl, y5, rfl, e5, a5, b5, c5, d5⟩ := h94z
  refine zr_aload_n 98 rfl rfl rfl trivial ?_
  refine zr_aload_n 99 rfl rfl rfl trivial ?_
  refine zr_getf 102 rfl rfl rfl rfl rfl ?_
  refine zr_bipush 104 (x := 6) rfl rfl (by decide) ?_
  refine zr_iload_n 105 rfl rfl rfl ?_
  refine zr_callv 108 (As := [_, _, _]) (u2 := (0, 0)) rfl rfl rfl rfl rfl rfl rfl (Nat.le_of_ble_eq_true rfl) (Nat.le_of_ble_eq_true rfl) (Nat.le_of_ble_eq_true rfl) rfl (c_MmoveK (a := 48) (len := 6) (m := 6) (q := 26) (fun _ _ => rfl) (by decide) (by decide) (by decide) (by decide) e5 (by decide)) rfl (fun v2 w2 h105z => ?_)
  obtain ⟨rfl, y6, rfl, e6, a6, b6, c6, d6⟩ := h105z
  refine zr_aload_n 109 rfl rfl rfl trivial ?_
  refine zr_aload_n 110 rfl rfl rfl trivial ?_
  refine zr_getf 113 rfl rfl rfl rfl rfl ?_
  refine zr_bipush 115 (x := 6) rfl rfl (by decide) ?_
  refine zr_iload_n 116 rfl rfl rfl ?_
  refine zr_callv 119 (As := [_, _, _]) (u2 := (0, 0)) rfl rfl rfl rfl rfl rfl rfl (Nat.le_of_ble_eq_true rfl) (Nat.le_of_ble_eq_true rfl) (Nat.le_of_ble_eq_true rfl) rfl (c_MmoveK (a := 49) (len := 6) (m := 6) (q := 32) (fun _ _ => rfl) (by decide) (by decide) (by decide) (by decide) e6 (by decide)) rfl (fun v2 w2 h116z => ?_)
  obtain ⟨rfl, y7, rfl, e7, a7, b7, c7, d7⟩ := h116z
  refine zr_aload_n 120 rfl rfl rfl trivial ?_
  refine zr_aload_n 121 rfl rfl rfl trivial ?_
  refine zr_getf 124 rfl rfl rfl rfl rfl ?_
  refine zr_bipush 126 (x := 19) rfl rfl (by decide) ?_
  refine zr_iload_n 127 rfl rfl rfl ?_
  refine zr_callv 130 (As := [_, _, _]) (u2 := (0, 0)) rfl rfl rfl rfl rfl rfl rfl (Nat.le_of_ble_eq_true rfl) (Nat.le_of_ble_eq_true rfl) (Nat.le_of_ble_eq_true rfl) rfl (c_MmoveK (a := 50) (len := 38) (m := 19) (q := 38) (fun _ _ => rfl) (by decide) (by decide) (by decide) (by decide) e7 (by decide)) rfl (fun v2 w2 h127z => ?_)
  obtain ⟨rfl, y8, rfl, e8, a8, b8, c8, d8⟩ := h127z
  refine zr_ret rfl rfl ?_
  have w0 : ∀ k, k < 3 → y8 68 (0 + k) = (zu (zu (zu (zu ξ 42 49 0) 69 0 (ξ 42 4)) 69 1 (ξ 42 1)) 69 2 (ξ 42 11)) 69 k := fun k hk => by
    rw [b8 _ (Or.inl (by omega)), b7 _ (Or.inl (by omega)), b6 _ (Or.inl (by omega)), b5 _ (Or.inl (by omega)), b4 _ (Or.inl (by omega)), b3 _ (Or.inl (by omega)), b2 _ (Or.inl (by omega)), b1 _ (Or.inl (by omega)), a0 k hk]
    rfl
  have w1 : ∀ k, k < 5 → y8 68 (3 + k) = ξ 43 k := fun k hk => by
    rw [b8 _ (Or.inl (by omega)), b7 _ (Or.inl (by omega)), b6 _ (Or.inl (by omega)), b5 _ (Or.inl (by omega)), b4 _ (Or.inl (by omega)), b3 _ (Or.inl (by omega)), b2 _ (Or.inl (by omega)), a1 k hk]
    rw [d0 43 (by decide) (by decide)]
    rfl
  have w2 : ∀ k, k < 3 → y8 68 (8 + k) = ξ 44 k := fun k hk => by
    rw [b8 _ (Or.inl (by omega)), b7 _ (Or.inl (by omega)), b6 _ (Or.inl (by omega)), b5 _ (Or.inl (by omega)), b4 _ (Or.inl (by omega)), b3 _ (Or.inl (by omega)), a2 k hk]
    rw [d1 44 (by decide) (by decide), d0 44 (by decide) (by decide)]
    rfl
  have w3 : ∀ k, k < 3 → y8 68 (11 + k) = ξ 45 k := fun k hk => by
    rw [b8 _ (Or.inl (by omega)), b7 _ (Or.inl (by omega)), b6 _ (Or.inl (by omega)), b5 _ (Or.inl (by omega)), b4 _ (Or.inl (by omega)), a3 k hk]
    rw [d2 45 (by decide) (by decide), d1 45 (by decide) (by decide), d0 45 (by decide) (by decide)]
    rfl
  have w4 : ∀ k, k < 6 → y8 68 (14 + k) = ξ 46 k := fun k hk => by
    rw [b8 _ (Or.inl (by omega)), b7 _ (Or.inl (by omega)), b6 _ (Or.inl (by omega)), b5 _ (Or.inl (by omega)), a4 k hk]
    rw [d3 46 (by decide) (by decide), d2 46 (by decide) (by decide), d1 46 (by decide) (by decide), d0 46 (by decide) (by decide)]
    rfl
  have w5 : ∀ k, k < 6 → y8 68 (20 + k) = ξ 47 k := fun k hk => by
    rw [b8 _ (Or.inl (by omega)), b7 _ (Or.inl (by omega)), b6 _ (Or.inl (by omega)), a5 k hk]
    rw [d4 47 (by decide) (by decide), d3 47 (by decide) (by decide), d2 47 (by decide) (by decide), d1 47 (by decide) (by decide), d0 47 (by decide) (by decide)]
    rfl
  have w6 : ∀ k, k < 6 → y8 68 (26 + k) = ξ 48 k := fun k hk => by
    rw [b8 _ (Or.inl (by omega)), b7 _ (Or.inl (by omega)), a6 k hk]
    rw [d5 48 (by decide) (by decide), d4 48 (by decide) (by decide), d3 48 (by decide) (by decide), d2 48 (by decide) (by decide), d1 48 (by decide) (by decide), d0 48 (by decide) (by decide)]
    rfl
  have w7 : ∀ k, k < 6 → y8 68 (32 + k) = ξ 49 k := fun k hk => by
    rw [b8 _ (Or.inl (by omega)), a7 k hk]
    rw [d6 49 (by decide) (by decide), d5 49 (by decide) (by decide), d4 49 (by decide) (by decide), d3 49 (by decide) (by decide), d2 49 (by decide) (by decide), d1 49 (by decide) (by decide), d0 49 (by decide) (by decide)]
    rfl
  have w8 : ∀ k, k < 19 → y8 68 (38 + k) = ξ 50 k := fun k hk => by
    rw [a8 k hk]
    rw [d7 50 (by decide) (by decide), d6 50 (by decide) (by decide), d5 50 (by decide) (by decide), d4 50 (by decide) (by decide), d3 50 (by decide) (by decide), d2 50 (by decide) (by decide), d1 50 (by decide) (by decide), d0 50 (by decide) (by decide)]
    rfl
  refine ⟨rfl, y8, rfl, ⟨(w0 0 (by decide)).trans h.hm, (w0 1 (by decide)).trans h.hd, (w0 2 (by decide)).trans h.hz, fun i hi => (w1 i hi).trans (h.hl i hi), fun i hi => (w2 i (by omega)).trans (h.hdd i hi), fun i hi => (w3 i (by omega)).trans (h.hdp i hi), fun i hi => ⟨(w4 i (by omega)).trans (h.k0 hi), (w5 i (by omega)).trans (h.k1 hi), (w6 i (by omega)).trans (h.k2 hi), (w7 i (by omega)).trans (h.k4 hi)⟩, (w8 0 (by decide)).trans h.ht, fun i hi => ⟨(w8 (1 + i) (by omega)).trans (z0 (h.k3 hi)), (w8 (7 + i) (by omega)).trans (z0 (h.k5 hi)), (w8 (13 + i) (by omega)).trans (z0 (h.k6 hi))⟩⟩, fun k hk => ?_, fun b b1 b2 b3 => ?_⟩
  · rw [c8 k hk, c7 k hk, c6 k hk, c5 k hk, c4 k hk, c3 k hk, c2 k hk, c1 k hk, c0 k hk]
    exact zu_ne (ξ := ξ) (a := 42) (k := 49) (v := 0) (a' := 42) (k' := k) (Or.inr hk)
  · rw [d8 b b1 b2, d7 b b1 b2, d6 b b1 b2, d5 b b1 b2, d4 b b1 b2, d3 b b1 b2, d2 b b1 b2, d1 b b1 b2, d0 b b1 b2, zun b3, zun b3, zun b3, zun b1]
set_option maxRecDepth 20000 in
set_option maxHeartbeats 1000000 in
theorem c_Mkeep {S : Nat × (Nat → Int32)} {d n : Nat} {ξ : Nat → Nat → Int32} {ρ : zRho} {K : zCs} (h : zMR ξ 0 K) (hK : zOK K) : Zc S (d + 3) jX6_keep [.ref 42] (zWof n ξ ρ) (fun r w => ∃ ξ2, w = zWof n ξ2 ρ ∧ r = some (.int 1) ∧ zMK ξ2 K ∧ zMR ξ2 0 K ∧ ξ2 42 47 = 1 ∧ (∀ k, k ≠ 47 → k ≠ 49 → ξ2 42 k = ξ 42 k) ∧ ∀ b, b ≠ 42 → b ≠ 68 → b ≠ 69 → ξ2 b = ξ b) := by
  have hd3 := hK.d3
  have hm6 := hK.m6
  have ht60 := hK.t60
  refine Zc_in (q := (6, 0, 1, 0, 1, 0, 0, zk_X6_keep)) rfl (Nat.le_of_ble_eq_true rfl) (L := [_]) rfl ?_
  refine zr_aload_n 1 rfl rfl rfl trivial ?_
  refine zr_iconst 2 (x := 1) rfl rfl (by decide) ?_
  refine zr_callv 5 (As := [_]) (u2 := (0, 0)) rfl rfl rfl rfl rfl rfl rfl (Nat.le_of_ble_eq_true rfl) (Nat.le_of_ble_eq_true rfl) (Nat.le_of_ble_eq_true rfl) rfl (c_MmoveAllK h hK) rfl (fun v2 w2 h2z => ?_)
  obtain ⟨rfl, ξ1, rfl, mk, fk, fb⟩ := h2z
  refine zr_aload_n 6 rfl rfl rfl trivial ?_
  refine zr_iconst 7 (x := 1) rfl rfl (by decide) ?_
  refine zr_putf 10 rfl rfl rfl rfl (Nat.le_of_ble_eq_true rfl) rfl (by first | exact Or.inl rfl | exact Or.inr rfl | assumption) (fun h => by cases h) (zW_set (k := 47) rfl) ?_
  refine zr_iconst 11 (x := 1) rfl rfl (by decide) ?_
  refine zr_iret rfl rfl ?_
  refine ⟨_, rfl, rfl, mk, ?_, zu_same _ _ _ _, fun k k1 k2 => by rw [zu_ne (Or.inr k1)]; exact fk k k2, fun b b1 b2 b3 => by rw [zun b1]; exact fb b b1 b2 b3⟩
  exact h.fr hm6 (fun b h1 h2 => by rw [zun (by omega)]; exact fb b (by omega) (by omega) (by omega)) (fun k hk => by rw [zu_ne (Or.inr (by omega))]; exact fk k (by omega)) (fun k _ _ => by rw [zun (by decide), fb 50 (by decide) (by decide) (by decide)])
set_option maxRecDepth 20000 in
set_option maxHeartbeats 1000000 in
theorem c_MmoveAllB {S : Nat × (Nat → Int32)} {d n : Nat} {ξ : Nat → Nat → Int32} {ρ : zRho}  : Zc S (d + 2) jX6_moveAll [.ref 42, .int 0] (zWof n ξ ρ) (fun r w => r = none ∧ ∃ ξ2, w = zWof n ξ2 ρ ∧ (∀ k, k < 3 → ξ2 69 k = ξ 68 (0 + k)) ∧ (∀ k, k < 5 → ξ2 43 k = ξ 68 (3 + k)) ∧ (∀ k, k < 3 → ξ2 44 k = ξ 68 (8 + k)) ∧ (∀ k, k < 3 → ξ2 45 k = ξ 68 (11 + k)) ∧ (∀ k, k < 6 → ξ2 46 k = ξ 68 (14 + k)) ∧ (∀ k, k < 6 → ξ2 47 k = ξ 68 (20 + k)) ∧ (∀ k, k < 6 → ξ2 48 k = ξ 68 (26 + k)) ∧ (∀ k, k < 6 → ξ2 49 k = ξ 68 (32 + k)) ∧ (∀ k, k < 19 → ξ2 50 k = ξ 68 (38 + k)) ∧ (∀ k, k ≠ 49 → ξ2 42 k = ξ 42 k) ∧ ∀ b, (b < 42 ∨ 51 ≤ b) → b ≠ 69 → ξ2 b = ξ b) := by
  refine Zc_in (q := (6, 0, 0, 1, 2, 0, 0, zk_X6_moveAll)) rfl (Nat.le_of_ble_eq_true rfl) (L := [_, _]) rfl ?_
  refine zr_aload_n 1 rfl rfl rfl trivial ?_
  refine zr_iconst 2 (x := 0) rfl rfl (by decide) ?_
  refine zr_putf 5 rfl rfl rfl rfl (Nat.le_of_ble_eq_true rfl) rfl trivial (fun h => by cases h) (zW_set (k := 49) rfl) ?_
  refine zr_aload_n 6 rfl rfl rfl trivial ?_
  refine zr_getf 9 rfl rfl rfl rfl rfl ?_
  refine zr_iconst 10 (x := 0) rfl rfl (by decide) ?_
  refine zr_aload_n 11 rfl rfl rfl trivial ?_
  refine zr_getf 14 rfl rfl rfl rfl rfl ?_
  refine zr_iast 15 (i := 0) rfl rfl rfl (by decide) (by unfold vp_in; decide) (zW_set rfl) ?_
  refine zr_aload_n 16 rfl rfl rfl trivial ?_
  refine zr_getf 19 rfl rfl rfl rfl rfl ?_
  refine zr_iconst 20 (x := 1) rfl rfl (by decide) ?_
  refine zr_aload_n 21 rfl rfl rfl trivial ?_
  refine zr_getf 24 rfl rfl rfl rfl rfl ?_
  refine zr_iast 25 (i := 1) rfl rfl rfl (by decide) (by unfold vp_in; decide) (zW_set rfl) ?_
  refine zr_aload_n 26 rfl rfl rfl trivial ?_
  refine zr_getf 29 rfl rfl rfl rfl rfl ?_
  refine zr_iconst 30 (x := 2) rfl rfl (by decide) ?_
  refine zr_aload_n 31 rfl rfl rfl trivial ?_
  refine zr_getf 34 rfl rfl rfl rfl rfl ?_
  refine zr_iast 35 (i := 2) rfl rfl rfl (by decide) (by unfold vp_in; decide) (zW_set rfl) ?_
  have h49 : (zu (zu (zu (zu ξ 42 49 0) 69 0 (ξ 42 4)) 69 1 (ξ 42 1)) 69 2 (ξ 42 11)) 42 49 = nI 0 := zu_same ξ 42 49 0
  refine zr_aload_n 36 rfl rfl rfl trivial ?_
  refine zr_aload_n 37 rfl rfl rfl trivial ?_
  refine zr_getf 40 rfl rfl rfl rfl rfl ?_
  refine zr_iconst 41 (x := 3) rfl rfl (by decide) ?_
  refine zr_iload_n 42 rfl rfl rfl ?_
  refine zr_callv 45 (As := [_, _, _]) (u2 := (0, 0)) rfl rfl rfl rfl rfl rfl rfl (Nat.le_of_ble_eq_true rfl) (Nat.le_of_ble_eq_true rfl) (Nat.le_of_ble_eq_true rfl) rfl (c_MmoveB (a := 69) (len := 3) (m := 3) (q := 0) (fun _ _ => rfl) (by decide) (by decide) (by decide) (by decide) h49 (by decide)) rfl (fun v2 w2 h42z => ?_)
  obtain ⟨rfl, y0, rfl, e0, a0, c0, d0⟩ := h42z
  refine zr_aload_n 46 rfl rfl rfl trivial ?_
  refine zr_aload_n 47 rfl rfl rfl trivial ?_
  refine zr_getf 50 rfl rfl rfl rfl rfl ?_
  refine zr_iconst 51 (x := 5) rfl rfl (by decide) ?_
  refine zr_iload_n 52 rfl rfl rfl ?_
  refine zr_callv 55 (As := [_, _, _]) (u2 := (0, 0)) rfl rfl rfl rfl rfl rfl rfl (Nat.le_of_ble_eq_true rfl) (Nat.le_of_ble_eq_true rfl) (Nat.le_of_ble_eq_true rfl) rfl (c_MmoveB (a := 43) (len := 5) (m := 5) (q := 3) (fun _ _ => rfl) (by decide) (by decide) (by decide) (by decide) e0 (by decide)) rfl (fun v2 w2 h52z => ?_)
  obtain ⟨rfl, y1, rfl, e1, a1, c1, d1⟩ := h52z
  refine zr_aload_n 56 rfl rfl rfl trivial ?_
  refine zr_aload_n 57 rfl rfl rfl trivial ?_
  refine zr_getf 60 rfl rfl rfl rfl rfl ?_
  refine zr_iconst 61 (x := 3) rfl rfl (by decide) ?_
  refine zr_iload_n 62 rfl rfl rfl ?_
  refine zr_callv 65 (As := [_, _, _]) (u2 := (0, 0)) rfl rfl rfl rfl rfl rfl rfl (Nat.le_of_ble_eq_true rfl) (Nat.le_of_ble_eq_true rfl) (Nat.le_of_ble_eq_true rfl) rfl (c_MmoveB (a := 44) (len := 4) (m := 3) (q := 8) (fun _ _ => rfl) (by decide) (by decide) (by decide) (by decide) e1 (by decide)) rfl (fun v2 w2 h62z => ?_)
  obtain ⟨rfl, y2, rfl, e2, a2, c2, d2⟩ := h62z
  refine zr_aload_n 66 rfl rfl rfl trivial ?_
  refine zr_aload_n 67 rfl rfl rfl trivial ?_
  refine zr_getf 70 rfl rfl rfl rfl rfl ?_
  refine zr_iconst 71 (x := 3) rfl rfl (by decide) ?_
  refine zr_iload_n 72 rfl rfl rfl ?_
  refine zr_callv 75 (As := [_, _, _]) (u2 := (0, 0)) rfl rfl rfl rfl rfl rfl rfl (Nat.le_of_ble_eq_true rfl) (Nat.le_of_ble_eq_true rfl) (Nat.le_of_ble_eq_true rfl) rfl (c_MmoveB (a := 45) (len := 4) (m := 3) (q := 11) (fun _ _ => rfl) (by decide) (by decide) (by decide) (by decide) e2 (by decide)) rfl (fun v2 w2 h72z => ?_)
  obtain ⟨rfl, y3, rfl, e3, a3, c3, d3⟩ := h72z
  refine zr_aload_n 76 rfl rfl rfl trivial ?_
  refine zr_aload_n 77 rfl rfl rfl trivial ?_
  refine zr_getf 80 rfl rfl rfl rfl rfl ?_
  refine zr_bipush 82 (x := 6) rfl rfl (by decide) ?_
  refine zr_iload_n 83 rfl rfl rfl ?_
  refine zr_callv 86 (As := [_, _, _]) (u2 := (0, 0)) rfl rfl rfl rfl rfl rfl rfl (Nat.le_of_ble_eq_true rfl) (Nat.le_of_ble_eq_true rfl) (Nat.le_of_ble_eq_true rfl) rfl (c_MmoveB (a := 46) (len := 6) (m := 6) (q := 14) (fun _ _ => rfl) (by decide) (by decide) (by decide) (by decide) e3 (by decide)) rfl (fun v2 w2 h83z => ?_)
  obtain ⟨rfl, y4, rfl, e4, a4, c4, d4⟩ := h83z
  refine zr_aload_n 87 rfl rfl rfl trivial ?_
  refine zr_aload_n 88 rfl rfl rfl trivial ?_
  refine zr_getf 91 rfl rfl rfl rfl rfl ?_
  refine zr_bipush 93 (x := 6) rfl rfl (by decide) ?_
  refine zr_iload_n 94 rfl rfl rfl ?_
  refine zr_callv 97 (As := [_, _, _]) (u2 := (0, 0)) rfl rfl rfl rfl rfl rfl rfl (Nat.le_of_ble_eq_true rfl) (Nat.le_of_ble_eq_true rfl) (Nat.le_of_ble_eq_true rfl) rfl (c_MmoveB (a := 47) (len := 6) (m := 6) (q := 20) (fun _ _ => rfl) (by decide) (by decide) (by decide) (by decide) e4 (by decide)) rfl (fun v2 w2 h94z => ?_)
  obtain ⟨rfl, y5, rfl, e5, a5, c5, d5⟩ := h94z
  refine zr_aload_n 98 rfl rfl rfl trivial ?_
  refine zr_aload_n 99 rfl rfl rfl trivial ?_
  refine zr_getf 102 rfl rfl rfl rfl rfl ?_
  refine zr_bipush 104 (x := 6) rfl rfl (by decide) ?_
  refine zr_iload_n 105 rfl rfl rfl ?_
  refine zr_callv 108 (As := [_, _, _]) (u2 := (0, 0)) rfl rfl rfl rfl rfl rfl rfl (Nat.le_of_ble_eq_true rfl) (Nat.le_of_ble_eq_true rfl) (Nat.le_of_ble_eq_true rfl) rfl (c_MmoveB (a := 48) (len := 6) (m := 6) (q := 26) (fun _ _ => rfl) (by decide) (by decide) (by decide) (by decide) e5 (by decide)) rfl (fun v2 w2 h105z => ?_)
  obtain ⟨rfl, y6, rfl, e6, a6, c6, d6⟩ := h105z
  refine zr_aload_n 109 rfl rfl rfl trivial ?_
  refine zr_aload_n 110 rfl rfl rfl trivial ?_
  refine zr_getf 113 rfl rfl rfl rfl rfl ?_
  refine zr_bipush 115 (x := 6) rfl rfl (by decide) ?_
  refine zr_iload_n 116 rfl rfl rfl ?_
  refine zr_callv 119 (As := [_, _, _]) (u2 := (0, 0)) rfl rfl rfl rfl rfl rfl rfl (Nat.le_of_ble_eq_true rfl) (Nat.le_of_ble_eq_true rfl) (Nat.le_of_ble_eq_true rfl) rfl (c_MmoveB (a := 49) (len := 6) (m := 6) (q := 32) (fun _ _ => rfl) (by decide) (by decide) (by decide) (by decide) e6 (by decide)) rfl (fun v2 w2 h116z => ?_)
  obtain ⟨rfl, y7, rfl, e7, a7, c7, d7⟩ := h116z
  refine zr_aload_n 120 rfl rfl rfl trivial ?_
  refine zr_aload_n 121 rfl rfl rfl trivial ?_
  refine zr_getf 124 rfl rfl rfl rfl rfl ?_
  refine zr_bipush 126 (x := 19) rfl rfl (by decide) ?_
  refine zr_iload_n 127 rfl rfl rfl ?_
  refine zr_callv 130 (As := [_, _, _]) (u2 := (0, 0)) rfl rfl rfl rfl rfl rfl rfl (Nat.le_of_ble_eq_true rfl) (Nat.le_of_ble_eq_true rfl) (Nat.le_of_ble_eq_true rfl) rfl (c_MmoveB (a := 50) (len := 38) (m := 19) (q := 38) (fun _ _ => rfl) (by decide) (by decide) (by decide) (by decide) e7 (by decide)) rfl (fun v2 w2 h127z => ?_)
  obtain ⟨rfl, y8, rfl, e8, a8, c8, d8⟩ := h127z
  refine zr_ret rfl rfl ?_
  have w0 : ∀ k, k < 3 → y8 69 k = ξ 68 (0 + k) := fun k hk => by
    rw [d8 69 (by decide) (by decide), d7 69 (by decide) (by decide), d6 69 (by decide) (by decide), d5 69 (by decide) (by decide), d4 69 (by decide) (by decide), d3 69 (by decide) (by decide), d2 69 (by decide) (by decide), d1 69 (by decide) (by decide), a0 k hk]
    rfl
  have w1 : ∀ k, k < 5 → y8 43 k = ξ 68 (3 + k) := fun k hk => by
    rw [d8 43 (by decide) (by decide), d7 43 (by decide) (by decide), d6 43 (by decide) (by decide), d5 43 (by decide) (by decide), d4 43 (by decide) (by decide), d3 43 (by decide) (by decide), d2 43 (by decide) (by decide), a1 k hk]
    rw [d0 68 (by decide) (by decide)]
    rfl
  have w2 : ∀ k, k < 3 → y8 44 k = ξ 68 (8 + k) := fun k hk => by
    rw [d8 44 (by decide) (by decide), d7 44 (by decide) (by decide), d6 44 (by decide) (by decide), d5 44 (by decide) (by decide), d4 44 (by decide) (by decide), d3 44 (by decide) (by decide), a2 k hk]
    rw [d1 68 (by decide) (by decide), d0 68 (by decide) (by decide)]
    rfl
  have w3 : ∀ k, k < 3 → y8 45 k = ξ 68 (11 + k) := fun k hk => by
    rw [d8 45 (by decide) (by decide), d7 45 (by decide) (by decide), d6 45 (by decide) (by decide), d5 45 (by decide) (by decide), d4 45 (by decide) (by decide), a3 k hk]
    rw [d2 68 (by decide) (by decide), d1 68 (by decide) (by decide), d0 68 (by decide) (by decide)]
    rfl
  have w4 : ∀ k, k < 6 → y8 46 k = ξ 68 (14 + k) := fun k hk => by
    rw [d8 46 (by decide) (by decide), d7 46 (by decide) (by decide), d6 46 (by decide) (by decide), d5 46 (by decide) (by decide), a4 k hk]
    rw [d3 68 (by decide) (by decide), d2 68 (by decide) (by decide), d1 68 (by decide) (by decide), d0 68 (by decide) (by decide)]
    rfl
  have w5 : ∀ k, k < 6 → y8 47 k = ξ 68 (20 + k) := fun k hk => by
    rw [d8 47 (by decide) (by decide), d7 47 (by decide) (by decide), d6 47 (by decide) (by decide), a5 k hk]
    rw [d4 68 (by decide) (by decide), d3 68 (by decide) (by decide), d2 68 (by decide) (by decide), d1 68 (by decide) (by decide), d0 68 (by decide) (by decide)]
    rfl
  have w6 : ∀ k, k < 6 → y8 48 k = ξ 68 (26 + k) := fun k hk => by
    rw [d8 48 (by decide) (by decide), d7 48 (by decide) (by decide), a6 k hk]
    rw [d5 68 (by decide) (by decide), d4 68 (by decide) (by decide), d3 68 (by decide) (by decide), d2 68 (by decide) (by decide), d1 68 (by decide) (by decide), d0 68 (by decide) (by decide)]
    rfl
  have w7 : ∀ k, k < 6 → y8 49 k = ξ 68 (32 + k) := fun k hk => by
    rw [d8 49 (by decide) (by decide), a7 k hk]
    rw [d6 68 (by decide) (by decide), d5 68 (by decide) (by decide), d4 68 (by decide) (by decide), d3 68 (by decide) (by decide), d2 68 (by decide) (by decide), d1 68 (by decide) (by decide), d0 68 (by decide) (by decide)]
    rfl
  have w8 : ∀ k, k < 19 → y8 50 k = ξ 68 (38 + k) := fun k hk => by
    rw [a8 k hk]
    rw [d7 68 (by decide) (by decide), d6 68 (by decide) (by decide), d5 68 (by decide) (by decide), d4 68 (by decide) (by decide), d3 68 (by decide) (by decide), d2 68 (by decide) (by decide), d1 68 (by decide) (by decide), d0 68 (by decide) (by decide)]
    rfl
  refine ⟨rfl, y8, rfl, w0, w1, w2, w3, w4, w5, w6, w7, w8, fun k hk => ?_, fun b b1 b2 => ?_⟩
  · rw [c8 k hk, c7 k hk, c6 k hk, c5 k hk, c4 k hk, c3 k hk, c2 k hk, c1 k hk, c0 k hk]
    exact zu_ne (ξ := ξ) (a := 42) (k := 49) (v := 0) (a' := 42) (k' := k) (Or.inr hk)
  · rw [d8 b (by omega) (by omega), d7 b (by omega) (by omega), d6 b (by omega) (by omega), d5 b (by omega) (by omega), d4 b (by omega) (by omega), d3 b (by omega) (by omega), d2 b (by omega) (by omega), d1 b (by omega) (by omega), d0 b (by omega) (by omega), zun b2, zun b2, zun b2, zun (by omega)]
set_option maxRecDepth 20000 in
set_option maxHeartbeats 1000000 in
theorem c_Magain {S : Nat × (Nat → Int32)} {d n : Nat} {ξ : Nat → Nat → Int32} {ρ : zRho} {K K2 : zCs} (h : zMR ξ 0 K) (hk : ¬ ξ 42 47 = 0 → zMK ξ K2 ∧ zOK K2) : Zc S (d + 3) jX6_again [.ref 42] (zWof n ξ ρ) (fun r w => (ξ 42 47 = 0 → r = some (.int (-3)) ∧ w = zWof n ξ ρ) ∧ (¬ ξ 42 47 = 0 → ∃ ξ2, w = zWof n ξ2 ρ ∧ r = some (.int (nI K2.T)) ∧ zMR ξ2 0 K2 ∧ (∀ k, (k = 13 ∨ k = 33 ∨ k = 45 ∨ k = 47) → ξ2 42 k = ξ 42 k) ∧ ∀ b, (b < 42 ∨ 51 ≤ b) → b ≠ 69 → ξ2 b = ξ b)) := by
  refine Zc_in (q := (6, 0, 1, 0, 1, 0, 0, zk_X6_again)) rfl (Nat.le_of_ble_eq_true rfl) (L := [_]) rfl ?_
  refine zr_aload_n 1 rfl rfl rfl trivial ?_
  refine zr_getf 4 rfl rfl rfl rfl rfl ?_
  refine zr_if_ne 10 7 rfl rfl (by decide) (fun c4z => ?_) (fun c4z => ?_)
  · obtain ⟨⟨k1, k2, k3, k4, k5, k6, k7, k8, k9⟩, hK2⟩ := hk c4z
    have hd3 := hK2.d3
    have hm6 := hK2.m6
    refine zr_aload_n 11 rfl rfl rfl trivial ?_
    refine zr_iconst 12 (x := 0) rfl rfl (by decide) ?_
    refine zr_callv 15 (As := [_]) (u2 := (0, 0)) rfl rfl rfl rfl rfl rfl rfl (Nat.le_of_ble_eq_true rfl) (Nat.le_of_ble_eq_true rfl) (Nat.le_of_ble_eq_true rfl) rfl c_MmoveAllB rfl (fun v2 w2 h12z => ?_)
    obtain ⟨rfl, ξ1, rfl, w0, w1, w2, w3, w4, w5, w6, w7, w8, fk, fb⟩ := h12z
    refine zr_aload_n 16 rfl rfl rfl trivial ?_
    refine zr_aload_n 17 rfl rfl rfl trivial ?_
    refine zr_getf 20 rfl rfl rfl rfl rfl ?_
    refine zr_iconst 21 (x := 0) rfl rfl (by decide) ?_
    refine zr_iald 22 (i := 0) rfl rfl rfl (by decide) (by unfold vp_in; decide) ?_
    refine zr_putf 25 rfl rfl rfl rfl (Nat.le_of_ble_eq_true rfl) rfl trivial (fun h => by cases h) (zW_set (k := 4) rfl) ?_
    refine zr_aload_n 26 rfl rfl rfl trivial ?_
    refine zr_aload_n 27 rfl rfl rfl trivial ?_
    refine zr_getf 30 rfl rfl rfl rfl rfl ?_
    refine zr_iconst 31 (x := 1) rfl rfl (by decide) ?_
    refine zr_iald 32 (i := 1) rfl rfl rfl (by decide) (by unfold vp_in; decide) ?_
    refine zr_putf 35 rfl rfl rfl rfl (Nat.le_of_ble_eq_true rfl) rfl trivial (fun h => by cases h) (zW_set (k := 1) rfl) ?_
    refine zr_aload_n 36 rfl rfl rfl trivial ?_
    refine zr_aload_n 37 rfl rfl rfl trivial ?_
    refine zr_getf 40 rfl rfl rfl rfl rfl ?_
    refine zr_iconst 41 (x := 2) rfl rfl (by decide) ?_
    refine zr_iald 42 (i := 2) rfl rfl rfl (by decide) (by unfold vp_in; decide) ?_
    refine zr_putf 45 rfl rfl rfl rfl (Nat.le_of_ble_eq_true rfl) rfl trivial (fun h => by cases h) (zW_set (k := 11) rfl) ?_
    refine zr_aload_n 46 rfl rfl rfl trivial ?_
    refine zr_getf 49 rfl rfl rfl rfl rfl ?_
    refine zr_iconst 50 (x := 0) rfl rfl (by decide) ?_
    refine zr_iald 51 (i := 0) rfl rfl rfl (by decide) (by unfold vp_in; decide) ?_
    refine zr_iret rfl rfl ?_
    refine ⟨fun q => absurd q c4z, fun _ => ⟨_, rfl, ?_, ⟨Or.inl rfl, ?_, ?_, ?_, ?_, ?_, fun i hi => (w1 i hi).trans (k4 i hi), fun i hi => (w2 i (by omega)).trans (k5 i hi), fun i hi => (w3 i (by omega)).trans (k6 i hi), fun i hi => ⟨(w4 i (by omega)).trans (k7 i hi).1, (w5 i (by omega)).trans (k7 i hi).2.1, (w6 i (by omega)).trans (k7 i hi).2.2.1, (w7 i (by omega)).trans (k7 i hi).2.2.2⟩, fun i hi => ?_⟩, fun k q => ?_, fun b b1 b2 => ?_⟩⟩
    · exact congrArg (fun z => some (Value.int z)) ((w8 0 (by decide)).trans k8)
    · rw [zu_ne (Or.inr (by decide)), zu_ne (Or.inr (by decide)), zu_ne (Or.inr (by decide)), fk 10 (by decide)]
      exact h.ha
    · rw [zu_ne (Or.inr (by decide)), zu_same]
      exact (w0 1 (by decide)).trans k2
    · rw [zu_ne (Or.inr (by decide)), zu_ne (Or.inr (by decide)), zu_same]
      exact (w0 0 (by decide)).trans k1
    · exact (w8 0 (by decide)).trans k8
    · rw [zu_same]
      exact (w0 2 (by decide)).trans k3
    · rw [Nat.zero_add, Nat.zero_add, Nat.zero_add]
      exact ⟨(w8 (1 + i) (by omega)).trans (k9 i hi).1, (w8 (7 + i) (by omega)).trans (k9 i hi).2.1, (w8 (13 + i) (by omega)).trans (k9 i hi).2.2⟩
    · rw [zu_ne (Or.inr (by omega)), zu_ne (Or.inr (by omega)), zu_ne (Or.inr (by omega))]
      exact fk k (by omega)
    · rw [zun (by omega), zun (by omega), zun (by omega)]
      exact fb b b1 b2
  · refine zr_bipush 9 (x := (-3)) rfl rfl (by decide) ?_
    refine zr_iret rfl rfl ?_
    exact ⟨fun _ => ⟨rfl, rfl⟩, fun q => absurd c4z q⟩
