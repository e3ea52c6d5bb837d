set_option maxRecDepth 20000 in
set_option maxHeartbeats 1000000 in
theorem c_MturnsInto {S : Nat × (Nat → Int32)} {d n : Nat} {ξ : Nat → Nat → Int32} {ρ : zRho} {K K2 : zCs} (h : zMR ξ 0 K) (hF : zMF ξ K2) (hP : zPk K2) : Zc S (d + 2) jX6_turnsInto [.ref 42] (zWof n ξ ρ) (fun r w => r = none ∧ ∃ ξ2, w = zWof n ξ2 ρ ∧ zMR ξ2 0 (K2.drop.sz K.z) ∧ zfm ξ ξ2) := by
  refine Zc_in (q := (6, 0, 0, 0, 2, 0, 0, zk_X6_turnsInto)) rfl (Nat.le_of_ble_eq_true rfl) (L := [_, _]) rfl ?_
  obtain ⟨g1, g2, g3, g4, g5, g6, g7, g8, g9⟩ := hF
  have key3 : ∀ (kz3 : Nat) (j : Nat) (ξ1 : Nat → Nat → Int32), 6 - j = kz3 → j ≤ 6 → ξ1 42 1 = nI (zdropF K2.dd (K2.law 0) K2.D) → ξ1 42 4 = nI K2.M → (∀ i, i < 5 → ξ1 43 i = K2.law i) → (∀ i, i < K2.D → ξ1 44 i = K2.dd i) → (∀ i, i < K2.D → ξ1 45 i = K2.dp i) → ξ1 50 0 = 0 → (∀ i, i < j → ξ1 46 i = ξ 53 i ∧ ξ1 47 i = ξ 54 i ∧ ξ1 48 i = ξ 55 i ∧ ξ1 49 i = ξ 56 i ∧ ξ1 50 (1 + i) = 0 ∧ ξ1 50 (7 + i) = -1 ∧ ξ1 50 (13 + i) = 0) → (∀ b, (b < 42 ∨ 51 ≤ b) → ξ1 b = ξ b) → (∀ k, k ≠ 1 → k ≠ 4 → ξ1 42 k = ξ 42 k) →  Zw S (Zc S (d + 1)) 6 false 0 zk_X6_turnsInto (fun r w => r = none ∧ ∃ ξ2, w = zWof n ξ2 ρ ∧ zMR ξ2 0 (K2.drop.sz K.z) ∧ zfm ξ ξ2) (91, [some (.ref 42), some (.int (nI j))], [], (0, 0), zWof n ξ1 ρ) := by
    intro kz3
    induction kz3 using Nat.strongRecOn with
    | ind kz3 ih =>
      intro j ξ1 hk hj e1 e4 el ed ep e0 eq fb fk
      refine zr_iload_n 92 rfl rfl rfl ?_
      refine zr_bipush 94 (x := 6) rfl rfl (by decide) ?_
      refine zr_icmp_ge 156 97 rfl rfl (by decide) (fun c94z => ?_) (fun c94z => ?_)
      · rw [show (6 : Int32) = nI 6 from rfl, nI_leI (by decide) (by omega)] at c94z
        refine zr_ret rfl rfl ?_
        have dle := zdropF_le K2.dd (K2.law 0) K2.D
        refine ⟨rfl, ξ1, rfl, ⟨Or.inl rfl, (fk 10 (by decide) (by decide)).trans h.ha, e1, e4, ?_, (fk 11 (by decide) (by decide)).trans h.hz, el, fun i hi => ed i (Nat.lt_of_lt_of_le hi dle), fun i hi => ep i (Nat.lt_of_lt_of_le hi dle), fun i hi => ?_, fun i hi => ?_⟩, ⟨fun a a1 _ => fb a a1, fun k hk => fk k (by omega) (by omega)⟩⟩
        · show ξ1 50 0 = nI K2.T
          rw [e0, hP.2.2]
          rfl
        · have hi2 : i < K2.M := hi
          obtain ⟨q1, q2, q3, q4, q5, q6, q7⟩ := eq i (by omega)
          obtain ⟨r1, r2, r3, r4⟩ := g6 i hi2
          exact ⟨q1.trans r1, q2.trans r2, q3.trans r3, q4.trans r4⟩
        · have hi2 : i < K2.M := hi
          obtain ⟨q1, q2, q3, q4, q5, q6, q7⟩ := eq i (by omega)
          obtain ⟨r1, r2, r3⟩ := g7 i hi2
          show ξ1 50 (0 + (1 + i)) = K2.p i 3 ∧ ξ1 50 (0 + (7 + i)) = zhd (K2.p i 5) ∧ ξ1 50 (0 + (13 + i)) = K2.p i 6
          rw [Nat.zero_add, Nat.zero_add, Nat.zero_add, q5, q6, q7, r1, r2, r3]
          exact ⟨rfl, rfl, rfl⟩
      · rw [show (6 : Int32) = nI 6 from rfl, nI_leI (by decide) (by omega)] at c94z
        refine zr_aload_n 98 rfl rfl rfl trivial ?_
        refine zr_getf 101 rfl rfl rfl rfl rfl ?_
        refine zr_iload_n 102 rfl rfl rfl ?_
        refine zr_aload_n 103 rfl rfl rfl trivial ?_
        refine zr_getf 106 rfl rfl rfl rfl rfl ?_
        refine zr_iload_n 107 rfl rfl rfl ?_
        refine zr_iald 108 rfl rfl rfl (nI_clamp (by omega)) (vp_in_nI (by omega) (by omega)) ?_
        refine zr_iast 109 rfl rfl rfl (nI_clamp (by omega)) (vp_in_nI (by omega) (by omega)) (zW_set rfl) ?_
        refine zr_aload_n 110 rfl rfl rfl trivial ?_
        refine zr_getf 113 rfl rfl rfl rfl rfl ?_
        refine zr_iload_n 114 rfl rfl rfl ?_
        refine zr_aload_n 115 rfl rfl rfl trivial ?_
        refine zr_getf 118 rfl rfl rfl rfl rfl ?_
        refine zr_iload_n 119 rfl rfl rfl ?_
        refine zr_iald 120 rfl rfl rfl (nI_clamp (by omega)) (vp_in_nI (by omega) (by omega)) ?_
        refine zr_iast 121 rfl rfl rfl (nI_clamp (by omega)) (vp_in_nI (by omega) (by omega)) (zW_set rfl) ?_
        refine zr_aload_n 122 rfl rfl rfl trivial ?_
        refine zr_getf 125 rfl rfl rfl rfl rfl ?_
        refine zr_iload_n 126 rfl rfl rfl ?_
        refine zr_aload_n 127 rfl rfl rfl trivial ?_
        refine zr_getf 130 rfl rfl rfl rfl rfl ?_
        refine zr_iload_n 131 rfl rfl rfl ?_
        refine zr_iald 132 rfl rfl rfl (nI_clamp (by omega)) (vp_in_nI (by omega) (by omega)) ?_
        refine zr_iast 133 rfl rfl rfl (nI_clamp (by omega)) (vp_in_nI (by omega) (by omega)) (zW_set rfl) ?_
        refine zr_aload_n 134 rfl rfl rfl trivial ?_
        refine zr_getf 137 rfl rfl rfl rfl rfl ?_
        refine zr_iload_n 138 rfl rfl rfl ?_
        refine zr_aload_n 139 rfl rfl rfl trivial ?_
        refine zr_getf 142 rfl rfl rfl rfl rfl ?_
        refine zr_iload_n 143 rfl rfl rfl ?_
        refine zr_iald 144 rfl rfl rfl (nI_clamp (by omega)) (vp_in_nI (by omega) (by omega)) ?_
        refine zr_iast 145 rfl rfl rfl (nI_clamp (by omega)) (vp_in_nI (by omega) (by omega)) (zW_set rfl) ?_
        refine zr_aload_n 146 rfl rfl rfl trivial ?_
        refine zr_iload_n 147 rfl rfl rfl ?_
        refine zr_callv 150 (As := [_]) (u2 := (0, 0)) rfl rfl rfl rfl rfl rfl rfl (Nat.le_of_ble_eq_true rfl) (Nat.le_of_ble_eq_true rfl) (Nat.le_of_ble_eq_true rfl) rfl (c_Mbegins (show j < 6 by omega)) rfl (fun v2 w2 h147z => ?_)
        obtain ⟨rfl, rfl⟩ := h147z
        refine zr_iinc 153 (c0 := 1) (L2 := [_, _]) rfl rfl rfl (by first | exact trivial | exact rfl) (by decide) rfl ?_
        refine zr_goto 91 rfl (by decide) ?_
        rw [nI_1]
        have f53 : ∀ b, 53 ≤ b → b < 57 → ξ1 b = ξ b := fun b h1 h2 => fb b (by omega)
        refine ih _ (by omega) (j + 1) _ rfl (by omega) e1 e4 el ed ep ?_ (fun i hi => ?_) (fun b hb => ?_) (fun k k1 k2 => fk k k1 k2)
        · rw [zu_ne (Or.inr (by omega)), zu_ne (Or.inr (by omega)), zu_ne (Or.inr (by omega))]
          exact e0
        · show zu ξ1 46 j (ξ1 53 j) 46 i = ξ 53 i ∧ zu ξ1 47 j (ξ1 54 j) 47 i = ξ 54 i ∧ zu ξ1 48 j (ξ1 55 j) 48 i = ξ 55 i ∧ zu ξ1 49 j (ξ1 56 j) 49 i = ξ 56 i ∧ zu (zu (zu ξ1 50 (1 + j) 0) 50 (7 + j) (-1)) 50 (13 + j) 0 50 (1 + i) = 0 ∧ zu (zu (zu ξ1 50 (1 + j) 0) 50 (7 + j) (-1)) 50 (13 + j) 0 50 (7 + i) = -1 ∧ zu (zu (zu ξ1 50 (1 + j) 0) 50 (7 + j) (-1)) 50 (13 + j) 0 50 (13 + i) = 0
          by_cases z : i = j
          · subst z
            refine ⟨?_, ?_, ?_, ?_, ?_, ?_, ?_⟩
            · rw [zu_same, f53 53 (by decide) (by decide)]
            · rw [zu_same, f53 54 (by decide) (by decide)]
            · rw [zu_same, f53 55 (by decide) (by decide)]
            · rw [zu_same, f53 56 (by decide) (by decide)]
            · rw [zu_ne (Or.inr (by omega)), zu_ne (Or.inr (by omega)), zu_same]
            · rw [zu_ne (Or.inr (by omega)), zu_same]
            · rw [zu_same]
          · obtain ⟨q1, q2, q3, q4, q5, q6, q7⟩ := eq i (by omega)
            refine ⟨?_, ?_, ?_, ?_, ?_, ?_, ?_⟩
            · rw [zu_ne (Or.inr z)]; exact q1
            · rw [zu_ne (Or.inr z)]; exact q2
            · rw [zu_ne (Or.inr z)]; exact q3
            · rw [zu_ne (Or.inr z)]; exact q4
            · rw [zu_ne (Or.inr (by omega)), zu_ne (Or.inr (by omega)), zu_ne (Or.inr (by omega))]; exact q5
            · rw [zu_ne (Or.inr (by omega)), zu_ne (Or.inr (by omega)), zu_ne (Or.inr (by omega))]; exact q6
            · rw [zu_ne (Or.inr (by omega)), zu_ne (Or.inr (by omega)), zu_ne (Or.inr (by omega))]; exact q7
        · rw [zun (by omega), zun (by omega), zun (by omega), zun (by omega), zun (by omega), zun (by omega), zun (by omega)]
          exact fb b hb
  have key2 : ∀ (kz2 : Nat) (j : Nat) (ξ1 : Nat → Nat → Int32), 3 - j = kz2 → j ≤ 3 → ξ1 42 1 = nI K2.D → (∀ i, i < 5 → ξ1 43 i = K2.law i) → (∀ i, i < j → ξ1 44 i = ξ 57 i ∧ ξ1 45 i = ξ 58 i) → (∀ b, b ≠ 42 → b ≠ 43 → b ≠ 44 → b ≠ 45 → ξ1 b = ξ b) → (∀ k, k ≠ 1 → ξ1 42 k = ξ 42 k) →  Zw S (Zc S (d + 1)) 6 false 0 zk_X6_turnsInto (fun r w => r = none ∧ ∃ ξ2, w = zWof n ξ2 ρ ∧ zMR ξ2 0 (K2.drop.sz K.z) ∧ zfm ξ ξ2) (35, [some (.ref 42), some (.int (nI j))], [], (0, 0), zWof n ξ1 ρ) := by
    intro kz2
    induction kz2 using Nat.strongRecOn with
    | ind kz2 ih =>
      intro j ξ1 hk hj e1 el eq fb fk
      refine zr_iload_n 36 rfl rfl rfl ?_
      refine zr_iconst 37 (x := 3) rfl rfl (by decide) ?_
      refine zr_icmp_ge 70 40 rfl rfl (by decide) (fun c37z => ?_) (fun c37z => ?_)
      · rw [show (3 : Int32) = nI 3 from rfl, nI_leI (by decide) (by omega)] at c37z
        have ed : ∀ i, i < K2.D → ξ1 44 i = K2.dd i := fun i hi => (eq i (by omega)).1.trans (g4 i hi)
        have ep : ∀ i, i < K2.D → ξ1 45 i = K2.dp i := fun i hi => (eq i (by omega)).2.trans (g5 i hi)
        refine zr_aload_n 71 rfl rfl rfl trivial ?_
        refine zr_callv 74 (As := []) (u2 := (0, 0)) rfl rfl rfl rfl rfl rfl rfl (Nat.le_of_ble_eq_true rfl) (Nat.le_of_ble_eq_true rfl) (Nat.le_of_ble_eq_true rfl) rfl (c_MdropDates e1 g8) rfl (fun v2 w2 h71z => ?_)
        obtain ⟨rfl, ξ3, rfl, d1, da, dk⟩ := h71z
        rw [zdropF_cg K2.D ed, el 0 (by decide)] at d1
        refine zr_aload_n 75 rfl rfl rfl trivial ?_
        refine zr_aload_n 76 rfl rfl rfl trivial ?_
        refine zr_getf 79 rfl rfl rfl rfl rfl ?_
        refine zr_putf 82 rfl rfl rfl rfl (Nat.le_of_ble_eq_true rfl) rfl trivial (fun h => by cases h) (zW_set (k := 4) rfl) ?_
        refine zr_aload_n 83 rfl rfl rfl trivial ?_
        refine zr_getf 86 rfl rfl rfl rfl rfl ?_
        refine zr_iconst 87 (x := 0) rfl rfl (by decide) ?_
        refine zr_iconst 88 (x := 0) rfl rfl (by decide) ?_
        refine zr_iast 89 (i := 0) rfl rfl rfl (by decide) (by unfold vp_in; decide) (zW_set rfl) ?_
        refine zr_iconst 90 (x := 0) rfl rfl (by decide) ?_
        refine zr_istore_n 91 (L2 := [_, _]) rfl rfl (Nat.le_of_ble_eq_true rfl) (by first | exact trivial | exact rfl) rfl ?_
        refine key3 _ 0 _ rfl (by decide) ?_ ?_ ?_ ?_ ?_ (zu_same _ _ _ _) (fun i hi => absurd hi (Nat.not_lt_zero _)) (fun b hb => ?_) (fun k k1 k2 => ?_)
        · exact d1
        · exact (dk 20 (by decide)).trans ((fk 20 (by decide)).trans g1)
        · intro i hi
          rw [zun (by decide), zun (by decide), da 43 (by decide)]
          exact el i hi
        · intro i hi
          rw [zun (by decide), zun (by decide), da 44 (by decide)]
          exact ed i hi
        · intro i hi
          rw [zun (by decide), zun (by decide), da 45 (by decide)]
          exact ep i hi
        · rw [zun (by omega), zun (by omega), da b (by omega)]
          exact fb b (by omega) (by omega) (by omega) (by omega)
        · rw [zun (by decide), zu_ne (Or.inr k2), dk k k1]
          exact fk k k1
      · rw [show (3 : Int32) = nI 3 from rfl, nI_leI (by decide) (by omega)] at c37z
        refine zr_aload_n 41 rfl rfl rfl trivial ?_
        refine zr_getf 44 rfl rfl rfl rfl rfl ?_
        refine zr_iload_n 45 rfl rfl rfl ?_
        refine zr_aload_n 46 rfl rfl rfl trivial ?_
        refine zr_getf 49 rfl rfl rfl rfl rfl ?_
        refine zr_iload_n 50 rfl rfl rfl ?_
        refine zr_iald 51 rfl rfl rfl (nI_clamp (by omega)) (vp_in_nI (by omega) (by omega)) ?_
        refine zr_iast 52 rfl rfl rfl (nI_clamp (by omega)) (vp_in_nI (by omega) (by omega)) (zW_set rfl) ?_
        refine zr_aload_n 53 rfl rfl rfl trivial ?_
        refine zr_getf 56 rfl rfl rfl rfl rfl ?_
        refine zr_iload_n 57 rfl rfl rfl ?_
        refine zr_aload_n 58 rfl rfl rfl trivial ?_
        refine zr_getf 61 rfl rfl rfl rfl rfl ?_
        refine zr_iload_n 62 rfl rfl rfl ?_
        refine zr_iald 63 rfl rfl rfl (nI_clamp (by omega)) (vp_in_nI (by omega) (by omega)) ?_
        refine zr_iast 64 rfl rfl rfl (nI_clamp (by omega)) (vp_in_nI (by omega) (by omega)) (zW_set rfl) ?_
        refine zr_iinc 67 (c0 := 1) (L2 := [_, _]) rfl rfl rfl (by first | exact trivial | exact rfl) (by decide) rfl ?_
        refine zr_goto 35 rfl (by decide) ?_
        rw [nI_1]
        refine ih _ (by omega) (j + 1) _ rfl (by omega) e1 el (fun i hi => ?_) (fun b b1 b2 b3 b4 => by rw [zun b4, zun b3]; exact fb b b1 b2 b3 b4) fk
        show zu ξ1 44 j (ξ1 57 j) 44 i = _ ∧ zu ξ1 45 j (ξ1 58 j) 45 i = _
        by_cases z : i = j
        · subst z
          rw [zu_same, zu_same, fb 57 (by decide) (by decide) (by decide) (by decide), fb 58 (by decide) (by decide) (by decide) (by decide)]
          exact ⟨rfl, rfl⟩
        · rw [zu_ne (Or.inr z), zu_ne (Or.inr z)]
          exact eq i (by omega)
  have key1 : ∀ (kz1 : Nat) (j : Nat) (ξ1 : Nat → Nat → Int32), 5 - j = kz1 → j ≤ 5 → (∀ i, i < j → ξ1 43 i = ξ 52 i) → (∀ b, b ≠ 43 → ξ1 b = ξ b) →  Zw S (Zc S (d + 1)) 6 false 0 zk_X6_turnsInto (fun r w => r = none ∧ ∃ ξ2, w = zWof n ξ2 ρ ∧ zMR ξ2 0 (K2.drop.sz K.z) ∧ zfm ξ ξ2) (2, [some (.ref 42), some (.int (nI j))], [], (0, 0), zWof n ξ1 ρ) := by
    intro kz1
    induction kz1 using Nat.strongRecOn with
    | ind kz1 ih =>
      intro j ξ1 hk hj eq fb
      refine zr_iload_n 3 rfl rfl rfl ?_
      refine zr_iconst 4 (x := 5) rfl rfl (by decide) ?_
      refine zr_icmp_ge 25 7 rfl rfl (by decide) (fun c4z => ?_) (fun c4z => ?_)
      · rw [show (5 : Int32) = nI 5 from rfl, nI_leI (by decide) (by omega)] at c4z
        refine zr_aload_n 26 rfl rfl rfl trivial ?_
        refine zr_aload_n 27 rfl rfl rfl trivial ?_
        refine zr_getf 30 rfl rfl rfl rfl rfl ?_
        refine zr_putf 33 rfl rfl rfl rfl (Nat.le_of_ble_eq_true rfl) rfl trivial (fun h => by cases h) (zW_set (k := 1) rfl) ?_
        refine zr_iconst 34 (x := 0) rfl rfl (by decide) ?_
        refine zr_istore_n 35 (L2 := [_, _]) rfl rfl (Nat.le_of_ble_eq_true rfl) (by first | exact trivial | exact rfl) rfl ?_
        refine key2 _ 0 _ rfl (by decide) ?_ (fun i hi => ?_) (fun i hi => absurd hi (Nat.not_lt_zero _)) (fun b b1 b2 b3 b4 => by rw [zun b1]; exact fb b b2) (fun k hk => by rw [zu_ne (Or.inr hk), fb 42 (by decide)])
        · rw [zu_same, fb 42 (by decide)]
          exact g2
        · rw [zun (by decide)]
          exact (eq i (by omega)).trans (g3 i hi)
      · rw [show (5 : Int32) = nI 5 from rfl, nI_leI (by decide) (by omega)] at c4z
        refine zr_aload_n 8 rfl rfl rfl trivial ?_
        refine zr_getf 11 rfl rfl rfl rfl rfl ?_
        refine zr_iload_n 12 rfl rfl rfl ?_
        refine zr_aload_n 13 rfl rfl rfl trivial ?_
        refine zr_getf 16 rfl rfl rfl rfl rfl ?_
        refine zr_iload_n 17 rfl rfl rfl ?_
        refine zr_iald 18 rfl rfl rfl (nI_clamp (by omega)) (vp_in_nI (by omega) (by omega)) ?_
        refine zr_iast 19 rfl rfl rfl (nI_clamp (by omega)) (vp_in_nI (by omega) (by omega)) (zW_set rfl) ?_
        refine zr_iinc 22 (c0 := 1) (L2 := [_, _]) rfl rfl rfl (by first | exact trivial | exact rfl) (by decide) rfl ?_
        refine zr_goto 2 rfl (by decide) ?_
        rw [nI_1]
        refine ih _ (by omega) (j + 1) _ rfl (by omega) (fun i hi => ?_) (fun b b1 => by rw [zun b1]; exact fb b b1)
        by_cases z : i = j
        · subst z
          rw [zu_same, fb 52 (by decide)]
        · rw [zu_ne (Or.inr z)]
          exact eq i (by omega)
  refine zr_iconst 1 (x := 0) rfl rfl (by decide) ?_
  refine zr_istore_n 2 (L2 := [_, _]) rfl rfl (Nat.le_of_ble_eq_true rfl) (by first | exact trivial | exact rfl) rfl ?_
  exact key1 _ 0 ξ rfl (by decide) (fun i hi => absurd hi (Nat.not_lt_zero _)) (fun _ _ => rfl)
set_option maxRecDepth 20000 in
set_option maxHeartbeats 1000000 in
theorem c_Mtask {S : Nat × (Nat → Int32)} {d n : Nat} {ξ : Nat → Nat → Int32} {ρ : zRho} {K : zCs} (h : zMR ξ 0 K) (hK : zOK K) {tb tu : Nat → Int32} {L : Nat} (h13 : ξ 42 13 = nI L) (h51 : ξ 51 = tu) (hL : L ≤ 200) (hB : zBy tb tu L) (z : Int32) : Zc S (d + 10) jX6_task [.ref 42] (zWof n ξ ρ) (fun r w => ∃ ξ2 wd2, w = zWof n ξ2 (zρw ρ wd2) ∧ ξ2 42 13 = 0 ∧ (∀ f, ztask tb L z = .inl f → r = some (.int (-100 - nI f)) ∧ zMR ξ2 0 K ∧ ξ2 42 33 = ξ 42 33) ∧ (∀ K2, ztask tb L z = .inr K2 → r = some (.int (nI K2.M)) ∧ zMR ξ2 0 (K2.drop.sz K.z) ∧ ξ2 42 33 = 0) ∧ (∀ b, (b < 42 ∨ 51 ≤ b) → (b < 52 ∨ 61 ≤ b ∨ b = 59) → ξ2 b = ξ b) ∧ ξ2 42 45 = ξ 42 45 ∧ ξ2 42 47 = ξ 42 47) := by
  have hd3 := hK.d3
  have hm6 := hK.m6
  have ht60 := hK.t60
  refine Zc_in (q := (6, 0, 1, 0, 1, 0, 0, zk_X6_task)) rfl (Nat.le_of_ble_eq_true rfl) (L := [_]) rfl ?_
  have key : ∀ (k : Nat) (nf : Nat) (x : zRd) (ξ1 : Nat → Nat → Int32) (wd1 : Int64), nf = k → zMRs ξ1 wd1 tb tu L x → zfrC ξ ξ1 → (∀ f, x = .inl f → ztask tb L z = .inl f) → (∀ q, x = .inr q → ztask tb L z = zprs tb L nf q.1 q.2 ∧ L - q.2.1 < nf ∧ zPk q.1) →  Zw S (Zc S (d + 9)) 6 false 1 zk_X6_task (fun r w => ∃ ξ2 wd2, w = zWof n ξ2 (zρw ρ wd2) ∧ ξ2 42 13 = 0 ∧ (∀ f, ztask tb L z = .inl f → r = some (.int (-100 - nI f)) ∧ zMR ξ2 0 K ∧ ξ2 42 33 = ξ 42 33) ∧ (∀ K2, ztask tb L z = .inr K2 → r = some (.int (nI K2.M)) ∧ zMR ξ2 0 (K2.drop.sz K.z) ∧ ξ2 42 33 = 0) ∧ (∀ b, (b < 42 ∨ 51 ≤ b) → (b < 52 ∨ 61 ≤ b ∨ b = 59) → ξ2 b = ξ b) ∧ ξ2 42 45 = ξ 42 45 ∧ ξ2 42 47 = ξ 42 47) (61, [some (.ref 42)], [], (0, 0), zWof n ξ1 (zρw ρ wd1)) := by
    intro k
    induction k using Nat.strongRecOn with
    | ind k ih =>
      intro nf x ξ1 wd1 hk m1 f1 hi hr
      have hold : zMR ξ1 0 K := h.fr hm6 (fun b h1 h2 => f1.1 b (by omega) (by omega)) (fun k hk => f1.2 k (by omega) (by omega) (by omega) (by omega) (by omega) (by omega) (by omega)) (fun k _ _ => by rw [f1.1 50 (by decide) (by decide)])
      rcases x with f | q
      · refine zr_aload_n 62 rfl rfl rfl trivial ?_
        refine zr_getf 65 rfl rfl rfl rfl rfl ?_
        refine zr_if_eq 82 68 rfl rfl (by decide) (fun c65z => ?_) (fun c65z => ?_)
        · refine zr_aload_n 83 rfl rfl rfl trivial ?_
          refine zr_iconst 84 (x := 0) rfl rfl (by decide) ?_
          refine zr_putf 87 rfl rfl rfl rfl (Nat.le_of_ble_eq_true rfl) rfl trivial (fun h => by cases h) (zW_set (k := 13) (v := 0) rfl) ?_
          refine zr_aload_n 88 rfl rfl rfl trivial ?_
          refine zr_getf 91 rfl rfl rfl rfl rfl ?_
          refine zr_if_ne 102 94 rfl rfl (by decide) (fun c91z => ?_) (fun c91z => ?_)
          · exact absurd m1.1 c91z
          · refine zr_bipush 96 (x := (-100)) rfl rfl (by decide) ?_
            refine zr_aload_n 97 rfl rfl rfl trivial ?_
            refine zr_getf 100 rfl rfl rfl rfl rfl ?_
            refine zr_isub 101 rfl rfl ?_
            refine zr_iret rfl rfl ?_
            refine ⟨_, wd1, rfl, zu_same _ _ _ _, fun f2 q => ?_, fun K2 q => ?_, fun b b1 b2 => by rw [zun (by omega)]; exact f1.1 b (by omega) (by omega), (by rw [zu_ne (Or.inr (by decide))]; exact f1.2 45 (by decide) (by decide) (by decide) (by decide) (by decide) (by decide) (by decide)), (by rw [zu_ne (Or.inr (by decide))]; exact f1.2 47 (by decide) (by decide) (by decide) (by decide) (by decide) (by decide) (by decide))⟩
            · cases (hi f rfl).symm.trans q
              exact ⟨congrArg (fun y => some (Value.int ((-100 : Int32) - y))) m1.2, hold.u42 hm6 13 0 (by decide), (by rw [zu_ne (Or.inr (by decide))]; exact f1.2 33 (by decide) (by decide) (by decide) (by decide) (by decide) (by decide) (by decide))⟩
            · cases (hi f rfl).symm.trans q
        · exact absurd m1.1 c65z
      · obtain ⟨⟨g1, mp1⟩, hF1⟩ := m1
        obtain ⟨ez, hfu, hP1⟩ := hr q rfl
        obtain ⟨n2, rfl⟩ : ∃ y, nf = y + 1 := ⟨nf - 1, by omega⟩
        rw [zprs] at ez
        refine zr_aload_n 62 rfl rfl rfl trivial ?_
        refine zr_getf 65 rfl rfl rfl rfl rfl ?_
        refine zr_if_eq 82 68 rfl rfl (by decide) (fun c65z => ?_) (fun c65z => ?_)
        · exact absurd (g1.symm.trans c65z) (by decide)
        · refine zr_aload_n 69 rfl rfl rfl trivial ?_
          refine zr_getf 72 rfl rfl rfl rfl rfl ?_
          refine zr_if_eq 82 75 rfl rfl (by decide) (fun c72z => ?_) (fun c72z => ?_)
          · rw [mp1.2.2.2.2.1] at c72z
            rw [if_pos c72z] at ez
            refine zr_aload_n 83 rfl rfl rfl trivial ?_
            refine zr_iconst 84 (x := 0) rfl rfl (by decide) ?_
            refine zr_putf 87 rfl rfl rfl rfl (Nat.le_of_ble_eq_true rfl) rfl trivial (fun h => by cases h) (zW_set (k := 13) (v := 0) rfl) ?_
            refine zr_aload_n 88 rfl rfl rfl trivial ?_
            refine zr_getf 91 rfl rfl rfl rfl rfl ?_
            refine zr_if_ne 102 94 rfl rfl (by decide) (fun c91z => ?_) (fun c91z => ?_)
            · refine zr_aload_n 103 rfl rfl rfl trivial ?_
              refine zr_callv 106 (As := []) (u2 := (0, 0)) rfl rfl rfl rfl rfl rfl rfl (Nat.le_of_ble_eq_true rfl) (Nat.le_of_ble_eq_true rfl) (Nat.le_of_ble_eq_true rfl) rfl (c_MturnsInto (ξ := zu ξ1 42 13 0) (ρ := zρw ρ wd1) (K := K) (hold.u42 hm6 13 0 (by decide)) hF1 hP1) rfl (fun v2 w2 h103z => ?_)
              obtain ⟨rfl, ξ2, rfl, m2, f2⟩ := h103z
              refine zr_aload_n 107 rfl rfl rfl trivial ?_
              refine zr_iconst 108 (x := 0) rfl rfl (by decide) ?_
              refine zr_putf 111 rfl rfl rfl rfl (Nat.le_of_ble_eq_true rfl) rfl trivial (fun h => by cases h) (zW_set (k := 33) (v := 0) rfl) ?_
              refine zr_aload_n 112 rfl rfl rfl trivial ?_
              refine zr_getf 115 rfl rfl rfl rfl rfl ?_
              refine zr_iret rfl rfl ?_
              refine ⟨_, wd1, rfl, ?_, fun f2 q => ?_, fun K2 q => ?_, fun b b1 b2 => ?_, ?_, ?_⟩
              · rw [zu_ne (Or.inr (by decide)), f2.2 13 (by decide), zu_same]
              · cases ez.symm.trans q
              · cases ez.symm.trans q
                exact ⟨congrArg (fun y => some (Value.int y)) m2.hm, m2.u42 hF1.2.2.2.2.2.2.2.2 33 0 (by decide), zu_same _ _ _ _⟩
              · rw [zun (by omega), f2.1 b b1 (by omega), zun (by omega)]
                exact f1.1 b (by omega) (by omega)
              · rw [zu_ne (Or.inr (by decide)), f2.2 45 (by decide)]
                exact (by rw [zu_ne (Or.inr (by decide))]; exact f1.2 45 (by decide) (by decide) (by decide) (by decide) (by decide) (by decide) (by decide))
              · rw [zu_ne (Or.inr (by decide)), f2.2 47 (by decide)]
                exact (by rw [zu_ne (Or.inr (by decide))]; exact f1.2 47 (by decide) (by decide) (by decide) (by decide) (by decide) (by decide) (by decide))
            · exact absurd (g1.symm.trans c91z) (by decide)
          · rw [mp1.2.2.2.2.1] at c72z
            rw [if_neg c72z] at ez
            refine zr_aload_n 76 rfl rfl rfl trivial ?_
            refine zr_callv 79 (As := []) (u2 := (0, 0)) rfl rfl rfl rfl rfl rfl rfl (Nat.le_of_ble_eq_true rfl) (Nat.le_of_ble_eq_true rfl) (Nat.le_of_ble_eq_true rfl) rfl (c_MwantClause (ρ := ρ) mp1 hF1 hP1) rfl (fun v2 w2 h76z => ?_)
            obtain ⟨rfl, ξ2, wd2, rfl, m2, f2⟩ := h76z
            refine zr_goto 61 rfl (by decide) ?_
            refine ih n2 (by omega) n2 (zstmt tb L q.1 q.2) ξ2 wd2 rfl m2 (f1.tr f2) (fun f y => ?_) (fun q2 y => ?_)
            · rw [y] at ez
              exact ez
            · rw [y] at ez
              have st := zstmt_st mp1.2.2.2.2.2.2.1 y
              have l0 := (mp1.2.2.2.2.2.2.1.lt c72z).2
              exact ⟨ez, by omega, zstmt_k hP1 y⟩
  refine zr_aload_n 1 rfl rfl rfl trivial ?_
  refine zr_iconst 2 (x := 0) rfl rfl (by decide) ?_
  refine zr_putf 5 rfl rfl rfl rfl (Nat.le_of_ble_eq_true rfl) rfl trivial (fun h => by cases h) (zW_set (k := 16) (v := 0) rfl) ?_
  refine zr_aload_n 6 rfl rfl rfl trivial ?_
  refine zr_iconst 7 (x := 1) rfl rfl (by decide) ?_
  refine zr_putf 10 rfl rfl rfl rfl (Nat.le_of_ble_eq_true rfl) rfl (by first | exact Or.inl rfl | exact Or.inr rfl | assumption) (fun h => by cases h) (zW_set (k := 19) (v := 1) rfl) ?_
  refine zr_aload_n 11 rfl rfl rfl trivial ?_
  refine zr_iconst 12 (x := 0) rfl rfl (by decide) ?_
  refine zr_putf 15 rfl rfl rfl rfl (Nat.le_of_ble_eq_true rfl) rfl trivial (fun h => by cases h) (zW_set (k := 20) (v := 0) rfl) ?_
  refine zr_aload_n 16 rfl rfl rfl trivial ?_
  refine zr_iconst 17 (x := 0) rfl rfl (by decide) ?_
  refine zr_putf 20 rfl rfl rfl rfl (Nat.le_of_ble_eq_true rfl) rfl trivial (fun h => by cases h) (zW_set (k := 21) (v := 0) rfl) ?_
  refine zr_aload_n 21 rfl rfl rfl trivial ?_
  refine zr_getf 24 rfl rfl rfl rfl rfl ?_
  refine zr_iconst 25 (x := 0) rfl rfl (by decide) ?_
  refine zr_bipush 27 (x := 29) rfl rfl (by decide) ?_
  refine zr_iast 28 (i := 0) rfl rfl rfl (by decide) (by unfold vp_in; decide) (zW_set rfl) ?_
  refine zr_aload_n 29 rfl rfl rfl trivial ?_
  refine zr_getf 32 rfl rfl rfl rfl rfl ?_
  refine zr_iconst 33 (x := 1) rfl rfl (by decide) ?_
  refine zr_bipush 35 (x := 8) rfl rfl (by decide) ?_
  refine zr_iast 36 (i := 1) rfl rfl rfl (by decide) (by unfold vp_in; decide) (zW_set rfl) ?_
  refine zr_aload_n 37 rfl rfl rfl trivial ?_
  refine zr_getf 40 rfl rfl rfl rfl rfl ?_
  refine zr_iconst 41 (x := 2) rfl rfl (by decide) ?_
  refine zr_iconst 42 (x := 5) rfl rfl (by decide) ?_
  refine zr_iast 43 (i := 2) rfl rfl rfl (by decide) (by unfold vp_in; decide) (zW_set rfl) ?_
  refine zr_aload_n 44 rfl rfl rfl trivial ?_
  refine zr_getf 47 rfl rfl rfl rfl rfl ?_
  refine zr_iconst 48 (x := 3) rfl rfl (by decide) ?_
  refine zr_iconst 49 (x := 0) rfl rfl (by decide) ?_
  refine zr_iast 50 (i := 3) rfl rfl rfl (by decide) (by unfold vp_in; decide) (zW_set rfl) ?_
  refine zr_aload_n 51 rfl rfl rfl trivial ?_
  refine zr_getf 54 rfl rfl rfl rfl rfl ?_
  refine zr_iconst 55 (x := 4) rfl rfl (by decide) ?_
  refine zr_iconst 56 (x := 5) rfl rfl (by decide) ?_
  refine zr_iast 57 (i := 4) rfl rfl rfl (by decide) (by unfold vp_in; decide) (zW_set rfl) ?_
  refine zr_aload_n 58 rfl rfl rfl trivial ?_
  refine zr_callv 61 (As := []) (u2 := (0, 0)) rfl rfl rfl rfl rfl rfl rfl (Nat.le_of_ble_eq_true rfl) (Nat.le_of_ble_eq_true rfl) (Nat.le_of_ble_eq_true rfl) rfl (c_Madvance (ξ := (zu (zu (zu (zu (zu (zu (zu (zu (zu ξ 42 16 0) 42 19 1) 42 20 0) 42 21 0) 52 0 29) 52 1 8) 52 2 5) 52 3 0) 52 4 5)) (ρ := ρ) (L := L) (e := 0) (tb := tb) (tu := tu) h13 h51 rfl hL (Nat.zero_le _) hB) rfl (fun v2 w2 h58z => ?_)
  obtain ⟨rfl, ξ1, wd1, rfl, mp1, fp1⟩ := h58z
  have fc0 : zfrC ξ (zu (zu (zu (zu ξ 42 16 0) 42 19 1) 42 20 0) 42 21 0) := ⟨fun b b1 b2 => by rw [zun b1, zun b1, zun b1, zun b1], fun k k1 k2 k3 k4 k5 k6 k7 => by rw [zu_ne (Or.inr k7), zu_ne (Or.inr k6), zu_ne (Or.inr k5), zu_ne (Or.inr k3)]⟩
  have fc : zfrC ξ (zu (zu (zu (zu (zu (zu (zu (zu (zu ξ 42 16 0) 42 19 1) 42 20 0) 42 21 0) 52 0 29) 52 1 8) 52 2 5) 52 3 0) 52 4 5) := ((((fc0.u 52 0 29 (by omega)).u 52 1 8 (by omega)).u 52 2 5 (by omega)).u 52 3 0 (by omega)).u 52 4 5 (by omega)
  have hF0 : zMF (zu (zu (zu (zu (zu (zu (zu (zu (zu ξ 42 16 0) 42 19 1) 42 20 0) 42 21 0) 52 0 29) 52 1 8) 52 2 5) 52 3 0) 52 4 5) (zK0 z) := by
    refine ⟨rfl, rfl, fun i hi => ?_, fun i hi => absurd hi (Nat.not_lt_zero _), fun i hi => absurd hi (Nat.not_lt_zero _), fun i hi => absurd hi (Nat.not_lt_zero _), fun i hi => absurd hi (Nat.not_lt_zero _), Nat.zero_le _, Nat.zero_le _⟩
    rcases (by omega : i = 0 ∨ i = 1 ∨ i = 2 ∨ i = 3 ∨ i = 4) with rfl | rfl | rfl | rfl | rfl <;> rfl
  refine key _ 202 (.inr (zK0 z, ztok tb L 0)) ξ1 wd1 rfl ⟨zMP.adv fp1 mp1 rfl, hF0.fr fp1.q⟩ (fc.tr fp1.q.c) (fun f q => by cases q) (fun q e => ?_)
  cases e
  exact ⟨rfl, by show L - (ztok tb L 0).1 < 202; omega, zPk0 z⟩
