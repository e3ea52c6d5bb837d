theorem zCC {b c j : Nat} (hb : zisC b) (hc : zisC c) (hne : b ≠ c) (hj : j < 11) : c + j < b ∨ b + 11 ≤ c + j := by
  rcases hb with rfl | rfl | rfl <;> rcases hc with rfl | rfl | rfl <;> omega
set_option maxRecDepth 20000 in
set_option maxHeartbeats 1000000 in
theorem c_copyCourse {S : Nat × (Nat → Int32)} {d n : Nat} {ξ : Nat → Nat → Int32} {ρ : zRho} {b c M : Nat} (hb : zisC b) (hc : zisC c) (hne : b ≠ c) (hM : ξ c 5 = nI M) (h6 : M ≤ 6) : Zc S (d + 2) jX0_copyFrom [.ref b, .ref c] (zWof n ξ ρ) (fun r w => r = none ∧ ∃ ξ2, w = zWof n ξ2 ρ ∧ (∀ i, i < 5 → ξ2 (b + 1) i = ξ (c + 1) i) ∧ (∀ i, i < 3 → ξ2 (b + 2) i = ξ (c + 2) i) ∧ (∀ i, i < 3 → ξ2 (b + 3) i = ξ (c + 3) i) ∧ (∀ k, 4 ≤ k → k < 8 → ξ2 b k = ξ c k) ∧ (∀ i, i < M → ∀ k, k < 7 → ξ2 (b + 5 + i) k = ξ (c + 5 + i) k) ∧ ∀ a, (a < b ∨ b + 11 ≤ a) → ξ2 a = ξ a) := by
  refine Zc_in (q := (0, 0, 0, 1, 3, 0, 0, zk_X0_copyFrom)) rfl (Nat.le_of_ble_eq_true rfl) (L := [_, _, _]) rfl ?_
  have q0 := zCC hb hc hne (j := 0) (by decide)
  have q1 := zCC hb hc hne (j := 1) (by decide)
  have q2 := zCC hb hc hne (j := 2) (by decide)
  have q3 := zCC hb hc hne (j := 3) (by decide)
  rw [Nat.add_zero] at q0
  have key : ∀ (k : Nat) (i : Nat) (ξ1 : Nat → Nat → Int32), M - i = k → i ≤ M → (∀ i, i < 5 → ξ1 (b + 1) i = ξ (c + 1) i) → (∀ i, i < 3 → ξ1 (b + 2) i = ξ (c + 2) i) → (∀ i, i < 3 → ξ1 (b + 3) i = ξ (c + 3) i) → (∀ j, j < i → ∀ k, k < 7 → ξ1 (b + 5 + j) k = ξ (c + 5 + j) k) → (∀ a, (a < b ∨ b + 11 ≤ a) → ξ1 a = ξ a) →  Zw S (Zc S (d + 1)) 0 false 0 zk_X0_copyFrom (fun r w => r = none ∧ ∃ ξ2, w = zWof n ξ2 ρ ∧ (∀ i, i < 5 → ξ2 (b + 1) i = ξ (c + 1) i) ∧ (∀ i, i < 3 → ξ2 (b + 2) i = ξ (c + 2) i) ∧ (∀ i, i < 3 → ξ2 (b + 3) i = ξ (c + 3) i) ∧ (∀ k, 4 ≤ k → k < 8 → ξ2 b k = ξ c k) ∧ (∀ i, i < M → ∀ k, k < 7 → ξ2 (b + 5 + i) k = ξ (c + 5 + i) k) ∧ ∀ a, (a < b ∨ b + 11 ≤ a) → ξ2 a = ξ a) (44, [some (.ref b), some (.ref c), some (.int (nI i))], [], (0, 0), zWof n ξ1 ρ) := by
    intro k
    induction k using Nat.strongRecOn with
    | ind k ih =>
      intro i ξ1 hk h2 f1 f2 f3 f5 f6
      have hM1 : ξ1 c 5 = nI M := by rw [f6 c q0]; exact hM
      refine zr_iload_n 45 rfl rfl rfl ?_
      refine zr_aload_n 46 rfl rfl rfl trivial ?_
      refine zr_getf 49 rfl rfl rfl (zc_co hc) rfl ?_
      refine zr_icmp_ge 73 52 rfl rfl (by decide) (fun c49z => ?_) (fun c49z => ?_)
      · rw [hM1, nI_leI (by omega) (by omega)] at c49z
        refine zr_aload_n 74 rfl rfl rfl trivial ?_
        refine zr_aload_n 75 rfl rfl rfl trivial ?_
        refine zr_getf 78 rfl rfl rfl (zc_co hc) rfl ?_
        refine zr_putf 81 rfl rfl rfl (zc_co hb) (Nat.le_of_ble_eq_true rfl) rfl trivial (fun h => by cases h) (zs_co hb 4 (by decide) _) ?_
        refine zr_aload_n 82 rfl rfl rfl trivial ?_
        refine zr_aload_n 83 rfl rfl rfl trivial ?_
        refine zr_getf 86 rfl rfl rfl (zc_co hc) rfl ?_
        refine zr_putf 89 rfl rfl rfl (zc_co hb) (Nat.le_of_ble_eq_true rfl) rfl trivial (fun h => by cases h) (zs_co hb 5 (by decide) _) ?_
        refine zr_aload_n 90 rfl rfl rfl trivial ?_
        refine zr_aload_n 91 rfl rfl rfl trivial ?_
        refine zr_getf 94 rfl rfl rfl (zc_co hc) rfl ?_
        refine zr_putf 97 rfl rfl rfl (zc_co hb) (Nat.le_of_ble_eq_true rfl) rfl trivial (fun h => by cases h) (zs_co hb 6 (by decide) _) ?_
        refine zr_aload_n 98 rfl rfl rfl trivial ?_
        refine zr_aload_n 99 rfl rfl rfl trivial ?_
        refine zr_getf 102 rfl rfl rfl (zc_co hc) rfl ?_
        refine zr_putf 105 rfl rfl rfl (zc_co hb) (Nat.le_of_ble_eq_true rfl) rfl trivial (fun h => by cases h) (zs_co hb 7 (by decide) _) ?_
        refine zr_ret rfl rfl ?_
        have mb : ∀ j, j < 11 → c + j ≠ b := fun j hj => by have := zCC hb hc hne (j := j) hj; omega
        have mb0 : c ≠ b := fun h => hne h.symm
        refine ⟨rfl, _, rfl, fun k hk => ?_, fun k hk => ?_, fun k hk => ?_, fun k hk1 hk2 => ?_, fun j hj k hk => ?_, fun a ha => ?_⟩
        · rw [zun (by omega), zun (by omega), zun (by omega), zun (by omega)]
          exact f1 k hk
        · rw [zun (by omega), zun (by omega), zun (by omega), zun (by omega)]
          exact f2 k hk
        · rw [zun (by omega), zun (by omega), zun (by omega), zun (by omega)]
          exact f3 k hk
        · rcases (by omega : k = 4 ∨ k = 5 ∨ k = 6 ∨ k = 7) with rfl | rfl | rfl | rfl <;> simp [zu_eq, mb0, f6 c q0]
        · rw [zun (by omega), zun (by omega), zun (by omega), zun (by omega)]
          exact f5 j (by omega) k hk
        · rw [zun (by omega), zun (by omega), zun (by omega), zun (by omega)]
          exact f6 a ha
      · rw [hM1, nI_leI (by omega) (by omega)] at c49z
        refine zr_aload_n 53 rfl rfl rfl trivial ?_
        refine zr_getf 56 rfl rfl rfl (zc_co hb) rfl ?_
        refine zr_iload_n 57 rfl rfl rfl ?_
        refine zr_aald 58 rfl rfl (zc_c4 hb) (by decide) (nI_clamp (by omega)) (vp_in_nI (by omega) (by omega)) (zrf_ps (by omega)) ?_
        refine zr_aload_n 59 rfl rfl rfl trivial ?_
        refine zr_getf 62 rfl rfl rfl (zc_co hc) rfl ?_
        refine zr_iload_n 63 rfl rfl rfl ?_
        refine zr_aald 64 rfl rfl (zc_c4 hc) (by decide) (nI_clamp (by omega)) (vp_in_nI (by omega) (by omega)) (zrf_ps (by omega)) ?_
        refine zr_callv 67 (As := [_]) (u2 := (0, 0)) rfl rfl rfl rfl rfl rfl rfl (Nat.le_of_ble_eq_true rfl) (Nat.le_of_ble_eq_true rfl) (Nat.le_of_ble_eq_true rfl) (zc_pe (zP hb (by omega))) (c_copyPerson (zP hb (by omega)) (zP hc (by omega)) (by have := zCC hb hc hne (j := 5 + i) (by omega); omega)) rfl (fun v2 w2 h64z => ?_)
        obtain ⟨rfl, ξ3, rfl, l1, l2⟩ := h64z
        refine zr_iinc 70 (c0 := 1) (L2 := [_, _, _]) rfl rfl rfl (by first | exact trivial | exact rfl) (by decide) rfl ?_
        refine zr_goto 44 rfl (by decide) ?_
        rw [nI_1]
        refine ih _ (by omega) (i + 1) ξ3 rfl (by omega) (fun k hk => ?_) (fun k hk => ?_) (fun k hk => ?_) (fun j hj k7 hk7 => ?_) (fun a ha => ?_)
        · rw [l2 _ _ (by omega)]
          exact f1 k hk
        · rw [l2 _ _ (by omega)]
          exact f2 k hk
        · rw [l2 _ _ (by omega)]
          exact f3 k hk
        · rcases Nat.lt_succ_iff_lt_or_eq.mp hj with h | rfl
          · rw [l2 _ _ (by omega)]
            exact f5 j h k7 hk7
          · rw [l1 k7 hk7, f6 _ (by have := zCC hb hc hne (j := 5 + j) (by omega); omega)]
        · funext k
          rw [l2 _ _ (by omega), f6 a ha]
  refine zr_aload_n 1 rfl rfl rfl trivial ?_
  refine zr_getf 4 rfl rfl rfl (zc_co hc) rfl ?_
  refine zr_iconst 5 (x := 0) rfl rfl (by decide) ?_
  refine zr_aload_n 6 rfl rfl rfl trivial ?_
  refine zr_getf 9 rfl rfl rfl (zc_co hb) rfl ?_
  refine zr_iconst 10 (x := 0) rfl rfl (by decide) ?_
  refine zr_iconst 11 (x := 5) rfl rfl (by decide) ?_
  refine zr_acopy 14 (k1 := 5) (dp1 := 0) (sp1 := 0) rfl rfl rfl (Nat.le_of_ble_eq_true rfl) (zc_c1 hb) (by decide) (by decide) (by decide) (by decide) (by decide) (by decide) (by decide) (Or.inl ⟨_, rfl, zc_c1 hc⟩) (by decide) (zW_setA (zcel_c1 hb ρ _).symm) ?_
  refine zr_aload_n 15 rfl rfl rfl trivial ?_
  refine zr_getf 18 rfl rfl rfl (zc_co hc) rfl ?_
  refine zr_iconst 19 (x := 0) rfl rfl (by decide) ?_
  refine zr_aload_n 20 rfl rfl rfl trivial ?_
  refine zr_getf 23 rfl rfl rfl (zc_co hb) rfl ?_
  refine zr_iconst 24 (x := 0) rfl rfl (by decide) ?_
  refine zr_iconst 25 (x := 3) rfl rfl (by decide) ?_
  refine zr_acopy 28 (k1 := 3) (dp1 := 0) (sp1 := 0) rfl rfl rfl (Nat.le_of_ble_eq_true rfl) (zc_c2 hb) (by decide) (by decide) (by decide) (by decide) (by decide) (by decide) (by decide) (Or.inl ⟨_, rfl, zc_c2 hc⟩) (by decide) (zW_setA (zcel_c2 hb ρ _).symm) ?_
  refine zr_aload_n 29 rfl rfl rfl trivial ?_
  refine zr_getf 32 rfl rfl rfl (zc_co hc) rfl ?_
  refine zr_iconst 33 (x := 0) rfl rfl (by decide) ?_
  refine zr_aload_n 34 rfl rfl rfl trivial ?_
  refine zr_getf 37 rfl rfl rfl (zc_co hb) rfl ?_
  refine zr_iconst 38 (x := 0) rfl rfl (by decide) ?_
  refine zr_iconst 39 (x := 3) rfl rfl (by decide) ?_
  refine zr_acopy 42 (k1 := 3) (dp1 := 0) (sp1 := 0) rfl rfl rfl (Nat.le_of_ble_eq_true rfl) (zc_c3 hb) (by decide) (by decide) (by decide) (by decide) (by decide) (by decide) (by decide) (Or.inl ⟨_, rfl, zc_c3 hc⟩) (by decide) (zW_setA (zcel_c3 hb ρ _).symm) ?_
  refine zr_iconst 43 (x := 0) rfl rfl (by decide) ?_
  refine zr_istore_n 44 (L2 := [_, _, _]) rfl rfl (Nat.le_of_ble_eq_true rfl) (by first | exact trivial | exact rfl) rfl ?_
  refine key _ 0 _ rfl (by omega) (fun k hk => ?_) (fun k hk => ?_) (fun k hk => ?_) (fun j hj => by omega) (fun a ha => ?_)
  · rw [zua_ne (by omega), zua_ne (by omega), zua_same]
    simp [va_cpy, hk]
  · rw [zua_ne (by omega), zua_same, zua_ne (by omega)]
    simp [va_cpy, hk]
  · rw [zua_same, zua_ne (by omega), zua_ne (by omega)]
    simp [va_cpy, hk]
  · rw [zua_ne (by omega), zua_ne (by omega), zua_ne (by omega)]
/-- one PERSON's n days in a Course -/
def zlvP (ξ : Nat → Nat → Int32) (b D p n T : Nat) : Int32 × Int32 × Int32 := zlvS (ξ (b + 2)) (ξ (b + 3)) D (ξ (b + 1) 0) (ξ (b + 1) 1) (ξ p 0) (ξ p 1) (ξ p 2) (ξ p 4) n T (ξ p 3, ξ p 5, ξ p 6)
def zmarkP (ξ : Nat → Nat → Int32) (b : Nat) (handed missed : Int32) : Int32 := zmarkF (ξ (b + 1) 0) (ξ (b + 1) 2) (ξ (b + 1) 3) (ξ (b + 1) 4) handed missed
set_option maxRecDepth 20000 in
set_option maxHeartbeats 1000000 in
theorem c_goTo {S : Nat × (Nat → Int32)} {d n : Nat} {ξ : Nat → Nat → Int32} {ρ : zRho} {b D M T E : Nat} (hb : zisC b) (hD : ξ b 4 = nI D) (h3 : D ≤ 3) (hM : ξ b 5 = nI M) (h6 : M ≤ 6) (hT : ξ b 6 = nI T) (hTE : T ≤ E) (hE : E ≤ 60) (hg : zgok (ξ (b + 2)) D (ξ (b + 1) 0)) : Zc S (d + 6) jX0_goTo [.ref b, .int (nI E)] (zWof n ξ ρ) (fun r w => r = none ∧ ∃ ξ2, w = zWof n ξ2 ρ ∧ (∀ i, i < M → (∀ k, k ≠ 3 → k ≠ 5 → k ≠ 6 → ξ2 (b + 5 + i) k = ξ (b + 5 + i) k) ∧ (ξ2 (b + 5 + i) 3, ξ2 (b + 5 + i) 5, ξ2 (b + 5 + i) 6) = zlvP ξ b D (b + 5 + i) (E - T) T) ∧ ξ2 b 6 = nI E ∧ (∀ k, k ≠ 6 → ξ2 b k = ξ b k) ∧ ∀ a, a ≠ b → (∀ i, i < M → a ≠ b + 5 + i) → ξ2 a = ξ a) := by
  refine Zc_in (q := (0, 0, 0, 1, 3, 0, 0, zk_X0_goTo)) rfl (Nat.le_of_ble_eq_true rfl) (L := [_, _, _]) rfl ?_
  have key : ∀ (k : Nat) (i : Nat) (ξ1 : Nat → Nat → Int32), M - i = k → i ≤ M → (∀ j, j < i → (∀ k, k ≠ 3 → k ≠ 5 → k ≠ 6 → ξ1 (b + 5 + j) k = ξ (b + 5 + j) k) ∧ (ξ1 (b + 5 + j) 3, ξ1 (b + 5 + j) 5, ξ1 (b + 5 + j) 6) = zlvP ξ b D (b + 5 + j) (E - T) T) → (∀ a, (∀ j, j < i → a ≠ b + 5 + j) → ξ1 a = ξ a) →  Zw S (Zc S (d + 5)) 0 false 0 zk_X0_goTo (fun r w => r = none ∧ ∃ ξ2, w = zWof n ξ2 ρ ∧ (∀ i, i < M → (∀ k, k ≠ 3 → k ≠ 5 → k ≠ 6 → ξ2 (b + 5 + i) k = ξ (b + 5 + i) k) ∧ (ξ2 (b + 5 + i) 3, ξ2 (b + 5 + i) 5, ξ2 (b + 5 + i) 6) = zlvP ξ b D (b + 5 + i) (E - T) T) ∧ ξ2 b 6 = nI E ∧ (∀ k, k ≠ 6 → ξ2 b k = ξ b k) ∧ ∀ a, a ≠ b → (∀ i, i < M → a ≠ b + 5 + i) → ξ2 a = ξ a) (2, [some (.ref b), some (.int (nI E)), some (.int (nI i))], [], (0, 0), zWof n ξ1 ρ) := by
    intro k
    induction k using Nat.strongRecOn with
    | ind k ih =>
      intro i ξ1 hk h2 f1 f2
      have gb : ξ1 b = ξ b := f2 b (fun j hj => by omega)
      have g1 : ξ1 (b + 1) = ξ (b + 1) := f2 _ (fun j hj => by omega)
      have g2 : ξ1 (b + 2) = ξ (b + 2) := f2 _ (fun j hj => by omega)
      have g3 : ξ1 (b + 3) = ξ (b + 3) := f2 _ (fun j hj => by omega)
      have gp : ξ1 (b + 5 + i) = ξ (b + 5 + i) := f2 _ (fun j hj => by omega)
      have hM1 : ξ1 b 5 = nI M := by rw [gb]; exact hM
      refine zr_iload_n 3 rfl rfl rfl ?_
      refine zr_aload_n 4 rfl rfl rfl trivial ?_
      refine zr_getf 7 rfl rfl rfl (zc_co hb) rfl ?_
      refine zr_icmp_ge 27 10 rfl rfl (by decide) (fun c7z => ?_) (fun c7z => ?_)
      · rw [hM1, nI_leI (by omega) (by omega)] at c7z
        refine zr_aload_n 28 rfl rfl rfl trivial ?_
        refine zr_iload_n 29 rfl rfl rfl ?_
        refine zr_putf 32 rfl rfl rfl (zc_co hb) (Nat.le_of_ble_eq_true rfl) rfl trivial (fun h => by cases h) (zs_co hb 6 (by decide) _) ?_
        refine zr_ret rfl rfl ?_
        have hi : i = M := by omega
        subst hi
        refine ⟨rfl, _, rfl, fun j hj => ?_, ?_, fun k hk => ?_, fun a q1 q2 => ?_⟩
        · have hn : b + 5 + j ≠ b := by omega
          rw [zun hn]
          exact f1 j hj
        · rw [zu_same]
        · rw [zu_ne (Or.inr hk), gb]
        · rw [zun q1]
          exact f2 a q2
      · rw [hM1, nI_leI (by omega) (by omega)] at c7z
        refine zr_aload_n 11 rfl rfl rfl trivial ?_
        refine zr_aload_n 12 rfl rfl rfl trivial ?_
        refine zr_getf 15 rfl rfl rfl (zc_co hb) rfl ?_
        refine zr_iload_n 16 rfl rfl rfl ?_
        refine zr_aald 17 rfl rfl (zc_c4 hb) (by decide) (nI_clamp (by omega)) (vp_in_nI (by omega) (by omega)) (zrf_ps (by omega)) ?_
        refine zr_iload_n 18 rfl rfl rfl ?_
        refine zr_callv 21 (As := [_, _]) (u2 := (0, 0)) rfl rfl rfl rfl rfl rfl rfl (Nat.le_of_ble_eq_true rfl) (Nat.le_of_ble_eq_true rfl) (Nat.le_of_ble_eq_true rfl) (zc_co hb) (c_live hb (zP hb (by omega)) (by rw [gb]; exact hD) h3 (by rw [gb]; exact hT) hTE hE (by rw [g1, g2]; exact hg)) rfl (fun v2 w2 h18z => ?_)
        obtain ⟨rfl, ξ3, rfl, l1, l2, l3⟩ := h18z
        refine zr_iinc 24 (c0 := 1) (L2 := [_, _, _]) rfl rfl rfl (by first | exact trivial | exact rfl) (by decide) rfl ?_
        refine zr_goto 2 rfl (by decide) ?_
        rw [nI_1]
        refine ih _ (by omega) (i + 1) ξ3 rfl (by omega) (fun j hj => ?_) (fun a ha => ?_)
        · rcases Nat.lt_succ_iff_lt_or_eq.mp hj with h | rfl
          · have hn : b + 5 + j ≠ b + 5 + i := by omega
            refine ⟨fun k q3 q5 q6 => by rw [l1 _ _ hn]; exact (f1 j h).1 k q3 q5 q6, ?_⟩
            rw [l1 _ _ hn, l1 _ _ hn, l1 _ _ hn]
            exact (f1 j h).2
          · refine ⟨fun k q3 q5 q6 => by rw [l2 k q3 q5 q6, gp], ?_⟩
            rw [l3, g1, g2, g3, gp]
            rfl
        · funext k
          rw [l1 _ _ (ha i (by omega)), f2 a (fun j hj => ha j (by omega))]
  refine zr_iconst 1 (x := 0) rfl rfl (by decide) ?_
  refine zr_istore_n 2 (L2 := [_, _, _]) rfl rfl (Nat.le_of_ble_eq_true rfl) (by first | exact trivial | exact rfl) rfl ?_
  exact key _ 0 ξ rfl (by omega) (fun j hj => by omega) (fun _ _ => rfl)
set_option maxRecDepth 20000 in
set_option maxHeartbeats 1000000 in
theorem c_finish {S : Nat × (Nat → Int32)} {d n : Nat} {ξ : Nat → Nat → Int32} {ρ : zRho} {b D T i : Nat} (hb : zisC b) (hD : ξ b 4 = nI D) (h3 : D ≤ 3) (hi : i < 6) (hT : ξ b 6 = nI T) (hTE : T ≤ 60) (hg : zgok (ξ (b + 2)) D (ξ (b + 1) 0)) : Zc S (d + 6) jX0_finish [.ref b, .int (nI i)] (zWof n ξ ρ) (fun r w => r = some (.int (zmarkP ξ b (zlvP ξ b D (b + 5 + i) (60 - T) T).2.1 (zlvP ξ b D (b + 5 + i) (60 - T) T).2.2)) ∧ ∃ ξ2, w = zWof n ξ2 ρ ∧ (∀ k, k ≠ 3 → k ≠ 5 → k ≠ 6 → ξ2 (b + 5 + i) k = ξ (b + 5 + i) k) ∧ (ξ2 (b + 5 + i) 3, ξ2 (b + 5 + i) 5, ξ2 (b + 5 + i) 6) = zlvP ξ b D (b + 5 + i) (60 - T) T ∧ ∀ a, a ≠ b + 5 + i → ξ2 a = ξ a) := by
  refine Zc_in (q := (0, 0, 1, 1, 2, 0, 0, zk_X0_finish)) rfl (Nat.le_of_ble_eq_true rfl) (L := [_, _]) rfl ?_
  refine zr_aload_n 1 rfl rfl rfl trivial ?_
  refine zr_aload_n 2 rfl rfl rfl trivial ?_
  refine zr_getf 5 rfl rfl rfl (zc_co hb) rfl ?_
  refine zr_iload_n 6 rfl rfl rfl ?_
  refine zr_aald 7 rfl rfl (zc_c4 hb) (by decide) (nI_clamp (by omega)) (vp_in_nI (by omega) (by omega)) (zrf_ps (by omega)) ?_
  refine zr_bipush 9 (x := 60) rfl rfl (by decide) ?_
  refine zr_callv 12 (As := [_, _]) (u2 := (0, 0)) rfl rfl rfl rfl rfl rfl rfl (Nat.le_of_ble_eq_true rfl) (Nat.le_of_ble_eq_true rfl) (Nat.le_of_ble_eq_true rfl) (zc_co hb) (c_live (E := 60) hb (zP hb (by omega)) hD h3 hT hTE (by omega) hg) rfl (fun v2 w2 h9z => ?_)
  obtain ⟨rfl, ξ3, rfl, l1, l2, l3⟩ := h9z
  refine zr_aload_n 13 rfl rfl rfl trivial ?_
  refine zr_aload_n 14 rfl rfl rfl trivial ?_
  refine zr_getf 17 rfl rfl rfl (zc_co hb) rfl ?_
  refine zr_iload_n 18 rfl rfl rfl ?_
  refine zr_aald 19 rfl rfl (zc_c4 hb) (by decide) (nI_clamp (by omega)) (vp_in_nI (by omega) (by omega)) (zrf_ps (by omega)) ?_
  refine zr_callv 22 (As := [_]) (u2 := (0, 0)) rfl rfl rfl rfl rfl rfl rfl (Nat.le_of_ble_eq_true rfl) (Nat.le_of_ble_eq_true rfl) (Nat.le_of_ble_eq_true rfl) (zc_co hb) (c_markFor hb (zP hb (by omega))) rfl (fun v2 w2 h19z => ?_)
  obtain ⟨rfl, rfl⟩ := h19z
  refine zr_iret rfl rfl ?_
  have e1 : ξ3 (b + 1) = ξ (b + 1) := funext fun k => l1 _ _ (by omega)
  refine ⟨?_, ξ3, rfl, l2, l3, fun a ha => funext fun k => l1 a k ha⟩
  have l3' : (ξ3 (b + 5 + i) 3, ξ3 (b + 5 + i) 5, ξ3 (b + 5 + i) 6) = zlvP ξ b D (b + 5 + i) (60 - T) T := l3
  rw [← l3', e1]
  rfl
def zsumF (f : Nat → Int32) : Nat → Int32
  | 0 => 0
  | n + 1 => zsumF f n + f n
def zorF (P : Nat → Prop) [DecidablePred P] : Nat → Int32
  | 0 => 0
  | n + 1 => if P n then zorF P n ||| (1 : Int32) <<< (nI n &&& 31) else zorF P n
def zcntF (P : Nat → Prop) [DecidablePred P] : Nat → Int32
  | 0 => 0
  | n + 1 => if P n then zcntF P n + 1 else zcntF P n
def zpos0 (x : Int32) : Int32 := if 0 < x then x else 0
set_option maxRecDepth 20000 in
set_option maxHeartbeats 1000000 in
theorem c_sumOfMarks {S : Nat × (Nat → Int32)} {d n : Nat} {ξ : Nat → Nat → Int32} {ρ : zRho} {b M : Nat} (hb : zisC b) (hM : ξ b 5 = nI M) (h6 : M ≤ 6) : Zc S (d + 3) jX0_sumOfMarks [.ref b] (zWof n ξ ρ) (fun r w => r = some (.int (zsumF (fun i => zpos0 (zmarkP ξ b (ξ (b + 5 + i) 5) (ξ (b + 5 + i) 6))) M)) ∧ w = zWof n ξ ρ) := by
  refine Zc_in (q := (0, 0, 1, 0, 3, 0, 0, zk_X0_sumOfMarks)) rfl (Nat.le_of_ble_eq_true rfl) (L := [_, _, _]) rfl ?_
  have key : ∀ (k : Nat) (i : Nat), M - i = k → i ≤ M →  Zw S (Zc S (d + 2)) 0 false 1 zk_X0_sumOfMarks (fun r w => r = some (.int (zsumF (fun i => zpos0 (zmarkP ξ b (ξ (b + 5 + i) 5) (ξ (b + 5 + i) 6))) M)) ∧ w = zWof n ξ ρ) (4, [some (.ref b), some (.int (zsumF (fun i => zpos0 (zmarkP ξ b (ξ (b + 5 + i) 5) (ξ (b + 5 + i) 6))) i)), some (.int (nI i))], [], (0, 0), zWof n ξ ρ) := by
    intro k
    induction k using Nat.strongRecOn with
    | ind k ih =>
      intro i hk h2
      refine zr_iload_n 5 rfl rfl rfl ?_
      refine zr_aload_n 6 rfl rfl rfl trivial ?_
      refine zr_getf 9 rfl rfl rfl (zc_co hb) rfl ?_
      refine zr_icmp_ge 35 12 rfl rfl (by decide) (fun c9z => ?_) (fun c9z => ?_)
      · rw [hM, nI_leI (by omega) (by omega)] at c9z
        refine zr_iload_n 36 rfl rfl rfl ?_
        refine zr_iret rfl rfl ?_
        exact ⟨by rw [show i = M by omega], rfl⟩
      · rw [hM, nI_leI (by omega) (by omega)] at c9z
        refine zr_iload_n 13 rfl rfl rfl ?_
        refine zr_iconst 14 (x := 0) rfl rfl (by decide) ?_
        refine zr_aload_n 15 rfl rfl rfl trivial ?_
        refine zr_aload_n 16 rfl rfl rfl trivial ?_
        refine zr_getf 19 rfl rfl rfl (zc_co hb) rfl ?_
        refine zr_iload_n 20 rfl rfl rfl ?_
        refine zr_aald 21 rfl rfl (zc_c4 hb) (by decide) (nI_clamp (by omega)) (vp_in_nI (by omega) (by omega)) (zrf_ps (by omega)) ?_
        refine zr_callv 24 (As := [_]) (u2 := (0, 0)) rfl rfl rfl rfl rfl rfl rfl (Nat.le_of_ble_eq_true rfl) (Nat.le_of_ble_eq_true rfl) (Nat.le_of_ble_eq_true rfl) (zc_co hb) (c_markFor hb (zP hb (by omega))) rfl (fun v2 w2 h21z => ?_)
        obtain ⟨rfl, rfl⟩ := h21z
        refine zr_max 27 rfl rfl rfl (Nat.le_of_ble_eq_true rfl) rfl ?_
        refine zr_iadd 28 rfl rfl ?_
        refine zr_istore_n 29 (L2 := [_, _, _]) rfl rfl (Nat.le_of_ble_eq_true rfl) (by first | exact trivial | exact rfl) rfl ?_
        refine zr_iinc 32 (c0 := 1) (L2 := [_, _, _]) rfl rfl rfl (by first | exact trivial | exact rfl) (by decide) rfl ?_
        refine zr_goto 4 rfl (by decide) ?_
        rw [nI_1]
        exact ih _ (by omega) (i + 1) rfl (by omega)
  refine zr_iconst 1 (x := 0) rfl rfl (by decide) ?_
  refine zr_istore_n 2 (L2 := [_, _, _]) rfl rfl (Nat.le_of_ble_eq_true rfl) (by first | exact trivial | exact rfl) rfl ?_
  refine zr_iconst 3 (x := 0) rfl rfl (by decide) ?_
  refine zr_istore_n 4 (L2 := [_, _, _]) rfl rfl (Nat.le_of_ble_eq_true rfl) (by first | exact trivial | exact rfl) rfl ?_
  exact key _ 0 rfl (by omega)
set_option maxRecDepth 20000 in
set_option maxHeartbeats 1000000 in
theorem c_lateSet {S : Nat × (Nat → Int32)} {d n : Nat} {ξ : Nat → Nat → Int32} {ρ : zRho} {b M : Nat} (hb : zisC b) (hM : ξ b 5 = nI M) (h6 : M ≤ 6) : Zc S (d + 2) jX0_lateSet [.ref b] (zWof n ξ ρ) (fun r w => r = some (.int (zorF (fun i => ξ (b + 5 + i) 5 = -9 ∨ ξ (b + 1) 0 < ξ (b + 5 + i) 5) M)) ∧ w = zWof n ξ ρ) := by
  refine Zc_in (q := (0, 0, 1, 0, 3, 0, 0, zk_X0_lateSet)) rfl (Nat.le_of_ble_eq_true rfl) (L := [_, _, _]) rfl ?_
  have key : ∀ (k : Nat) (i : Nat) (x : Int32), M - i = k → i ≤ M → x = zorF (fun i => ξ (b + 5 + i) 5 = -9 ∨ ξ (b + 1) 0 < ξ (b + 5 + i) 5) i →  Zw S (Zc S (d + 1)) 0 false 1 zk_X0_lateSet (fun r w => r = some (.int (zorF (fun i => ξ (b + 5 + i) 5 = -9 ∨ ξ (b + 1) 0 < ξ (b + 5 + i) 5) M)) ∧ w = zWof n ξ ρ) (4, [some (.ref b), some (.int x), some (.int (nI i))], [], (0, 0), zWof n ξ ρ) := by
    intro k
    induction k using Nat.strongRecOn with
    | ind k ih =>
      intro i x hk h2 ex
      refine zr_iload_n 5 rfl rfl rfl ?_
      refine zr_aload_n 6 rfl rfl rfl trivial ?_
      refine zr_getf 9 rfl rfl rfl (zc_co hb) rfl ?_
      refine zr_icmp_ge 54 12 rfl rfl (by decide) (fun c9z => ?_) (fun c9z => ?_)
      · rw [hM, nI_leI (by omega) (by omega)] at c9z
        refine zr_iload_n 55 rfl rfl rfl ?_
        refine zr_iret rfl rfl ?_
        exact ⟨by rw [ex, show i = M by omega], rfl⟩
      · rw [hM, nI_leI (by omega) (by omega)] at c9z
        refine zr_aload_n 13 rfl rfl rfl trivial ?_
        refine zr_getf 16 rfl rfl rfl (zc_co hb) rfl ?_
        refine zr_iload_n 17 rfl rfl rfl ?_
        refine zr_aald 18 rfl rfl (zc_c4 hb) (by decide) (nI_clamp (by omega)) (vp_in_nI (by omega) (by omega)) (zrf_ps (by omega)) ?_
        refine zr_callv 21 (As := []) (u2 := (0, 0)) rfl rfl rfl rfl rfl rfl rfl (Nat.le_of_ble_eq_true rfl) (Nat.le_of_ble_eq_true rfl) (Nat.le_of_ble_eq_true rfl) (zc_pe (zP hb (by omega))) (c_hasHanded (zP hb (by omega))) rfl (fun v2 w2 h18z => ?_)
        obtain ⟨rfl, rfl⟩ := h18z
        refine zr_if_eq 42 24 rfl rfl (by decide) (fun c21z => ?_) (fun c21z => ?_)
        · replace c21z := zb_0.mp c21z
          refine zr_iload_n 43 rfl rfl rfl ?_
          refine zr_iconst 44 (x := 1) rfl rfl (by decide) ?_
          refine zr_iload_n 45 rfl rfl rfl ?_
          refine zr_ishl 46 rfl rfl ?_
          refine zr_ior 47 rfl rfl ?_
          refine zr_istore_n 48 (L2 := [_, _, _]) rfl rfl (Nat.le_of_ble_eq_true rfl) (by first | exact trivial | exact rfl) rfl ?_
          refine zr_iinc 51 (c0 := 1) (L2 := [_, _, _]) rfl rfl rfl (by first | exact trivial | exact rfl) (by decide) rfl ?_
          refine zr_goto 4 rfl (by decide) ?_
          rw [nI_1]
          refine ih _ (by omega) (i + 1) _ rfl (by omega) ?_
          unfold zorF
          rw [if_pos (Or.inl (Decidable.not_not.mp c21z)), ex]
        · replace c21z := zb_n0.mp c21z
          refine zr_aload_n 25 rfl rfl rfl trivial ?_
          refine zr_getf 28 rfl rfl rfl (zc_co hb) rfl ?_
          refine zr_iload_n 29 rfl rfl rfl ?_
          refine zr_aald 30 rfl rfl (zc_c4 hb) (by decide) (nI_clamp (by omega)) (vp_in_nI (by omega) (by omega)) (zrf_ps (by omega)) ?_
          refine zr_getf 33 rfl rfl rfl (zc_pe (zP hb (by omega))) rfl ?_
          refine zr_aload_n 34 rfl rfl rfl trivial ?_
          refine zr_getf 37 rfl rfl rfl (zc_co hb) rfl ?_
          refine zr_iconst 38 (x := 0) rfl rfl (by decide) ?_
          refine zr_iald 39 (i := 0) rfl rfl (zc_c1 hb) (by decide) (by unfold vp_in; decide) ?_
          refine zr_icmp_le 48 42 rfl rfl (by decide) (fun c39z => ?_) (fun c39z => ?_)
          · refine zr_iinc 51 (c0 := 1) (L2 := [_, _, _]) rfl rfl rfl (by first | exact trivial | exact rfl) (by decide) rfl ?_
            refine zr_goto 4 rfl (by decide) ?_
            rw [nI_1]
            refine ih _ (by omega) (i + 1) _ rfl (by omega) ?_
            unfold zorF
            rw [if_neg (fun h => h.elim c21z (fun q => absurd q (Int32.not_lt.mpr c39z)))]
            exact ex
          · refine zr_iload_n 43 rfl rfl rfl ?_
            refine zr_iconst 44 (x := 1) rfl rfl (by decide) ?_
            refine zr_iload_n 45 rfl rfl rfl ?_
            refine zr_ishl 46 rfl rfl ?_
            refine zr_ior 47 rfl rfl ?_
            refine zr_istore_n 48 (L2 := [_, _, _]) rfl rfl (Nat.le_of_ble_eq_true rfl) (by first | exact trivial | exact rfl) rfl ?_
            refine zr_iinc 51 (c0 := 1) (L2 := [_, _, _]) rfl rfl rfl (by first | exact trivial | exact rfl) (by decide) rfl ?_
            refine zr_goto 4 rfl (by decide) ?_
            rw [nI_1]
            refine ih _ (by omega) (i + 1) _ rfl (by omega) ?_
            unfold zorF
            rw [if_pos (Or.inr (Int32.not_le.mp c39z)), ex]
  refine zr_iconst 1 (x := 0) rfl rfl (by decide) ?_
  refine zr_istore_n 2 (L2 := [_, _, _]) rfl rfl (Nat.le_of_ble_eq_true rfl) (by first | exact trivial | exact rfl) rfl ?_
  refine zr_iconst 3 (x := 0) rfl rfl (by decide) ?_
  refine zr_istore_n 4 (L2 := [_, _, _]) rfl rfl (Nat.le_of_ble_eq_true rfl) (by first | exact trivial | exact rfl) rfl ?_
  exact key _ 0 0 rfl (by omega) rfl
set_option maxRecDepth 20000 in
set_option maxHeartbeats 1000000 in
theorem c_handedCount {S : Nat × (Nat → Int32)} {d n : Nat} {ξ : Nat → Nat → Int32} {ρ : zRho} {b M : Nat} (hb : zisC b) (hM : ξ b 5 = nI M) (h6 : M ≤ 6) : Zc S (d + 2) jX0_handedCount [.ref b] (zWof n ξ ρ) (fun r w => r = some (.int (zcntF (fun i => ¬ ξ (b + 5 + i) 5 = -9) M)) ∧ w = zWof n ξ ρ) := by
  refine Zc_in (q := (0, 0, 1, 0, 3, 0, 0, zk_X0_handedCount)) rfl (Nat.le_of_ble_eq_true rfl) (L := [_, _, _]) rfl ?_
  have key : ∀ (k : Nat) (i : Nat) (x : Int32), M - i = k → i ≤ M → x = zcntF (fun i => ¬ ξ (b + 5 + i) 5 = -9) i →  Zw S (Zc S (d + 1)) 0 false 1 zk_X0_handedCount (fun r w => r = some (.int (zcntF (fun i => ¬ ξ (b + 5 + i) 5 = -9) M)) ∧ w = zWof n ξ ρ) (4, [some (.ref b), some (.int x), some (.int (nI i))], [], (0, 0), zWof n ξ ρ) := by
    intro k
    induction k using Nat.strongRecOn with
    | ind k ih =>
      intro i x hk h2 ex
      refine zr_iload_n 5 rfl rfl rfl ?_
      refine zr_aload_n 6 rfl rfl rfl trivial ?_
      refine zr_getf 9 rfl rfl rfl (zc_co hb) rfl ?_
      refine zr_icmp_ge 33 12 rfl rfl (by decide) (fun c9z => ?_) (fun c9z => ?_)
      · rw [hM, nI_leI (by omega) (by omega)] at c9z
        refine zr_iload_n 34 rfl rfl rfl ?_
        refine zr_iret rfl rfl ?_
        exact ⟨by rw [ex, show i = M by omega], rfl⟩
      · rw [hM, nI_leI (by omega) (by omega)] at c9z
        refine zr_aload_n 13 rfl rfl rfl trivial ?_
        refine zr_getf 16 rfl rfl rfl (zc_co hb) rfl ?_
        refine zr_iload_n 17 rfl rfl rfl ?_
        refine zr_aald 18 rfl rfl (zc_c4 hb) (by decide) (nI_clamp (by omega)) (vp_in_nI (by omega) (by omega)) (zrf_ps (by omega)) ?_
        refine zr_callv 21 (As := []) (u2 := (0, 0)) rfl rfl rfl rfl rfl rfl rfl (Nat.le_of_ble_eq_true rfl) (Nat.le_of_ble_eq_true rfl) (Nat.le_of_ble_eq_true rfl) (zc_pe (zP hb (by omega))) (c_hasHanded (zP hb (by omega))) rfl (fun v2 w2 h18z => ?_)
        obtain ⟨rfl, rfl⟩ := h18z
        refine zr_if_eq 27 24 rfl rfl (by decide) (fun c21z => ?_) (fun c21z => ?_)
        · replace c21z := zb_0.mp c21z
          refine zr_iinc 30 (c0 := 1) (L2 := [_, _, _]) rfl rfl rfl (by first | exact trivial | exact rfl) (by decide) rfl ?_
          refine zr_goto 4 rfl (by decide) ?_
          rw [nI_1]
          refine ih _ (by omega) (i + 1) _ rfl (by omega) ?_
          unfold zcntF
          rw [if_neg c21z]
          exact ex
        · replace c21z := zb_n0.mp c21z
          refine zr_iinc 27 (c0 := 1) (L2 := [_, _, _]) rfl rfl rfl (by first | exact trivial | exact rfl) (by decide) rfl ?_
          refine zr_iinc 30 (c0 := 1) (L2 := [_, _, _]) rfl rfl rfl (by first | exact trivial | exact rfl) (by decide) rfl ?_
          refine zr_goto 4 rfl (by decide) ?_
          rw [nI_1]
          refine ih _ (by omega) (i + 1) _ rfl (by omega) ?_
          unfold zcntF
          rw [if_pos c21z, ex]
  refine zr_iconst 1 (x := 0) rfl rfl (by decide) ?_
  refine zr_istore_n 2 (L2 := [_, _, _]) rfl rfl (Nat.le_of_ble_eq_true rfl) (by first | exact trivial | exact rfl) rfl ?_
  refine zr_iconst 3 (x := 0) rfl rfl (by decide) ?_
  refine zr_istore_n 4 (L2 := [_, _, _]) rfl rfl (Nat.le_of_ble_eq_true rfl) (by first | exact trivial | exact rfl) rfl ?_
  exact key _ 0 0 rfl (by omega) rfl
