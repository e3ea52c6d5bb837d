theorem zc1 : zisC 1 := Or.inl rfl
theorem zc12 : zisC 12 := Or.inr (Or.inl rfl)
theorem zc23 : zisC 23 := Or.inr (Or.inr rfl)
theorem zvin_lt {x y : Int32} {n : Nat} (h0 : 0 ≤ x) (h1 : x < y) (hy : y.toInt ≤ n) : vp_in x n := by
  rw [vp_in_iff]
  rw [Int32.le_iff_toInt_le, zI0] at h0
  rw [Int32.lt_iff_toInt_lt] at h1
  exact ⟨h0, by omega⟩
theorem zpidx {p : Int32} {M : Nat} (h : 0 ≤ p ∧ p < nI M) (hM : M ≤ 100) : p.toNatClampNeg < M := by
  have h0 := Int32.le_iff_toInt_le.mp h.1
  have h1 := Int32.lt_iff_toInt_lt.mp h.2
  rw [zI0] at h0
  rw [nI_toInt (by omega)] at h1
  show p.toInt.toNat < M
  omega
theorem zpin {p : Int32} {M n : Nat} (h : 0 ≤ p ∧ p < nI M) (hM : M ≤ 100) (hn : M ≤ n) : vp_in p n := by
  refine zvin_lt h.1 h.2 ?_
  rw [nI_toInt (by omega)]
  omega
set_option maxRecDepth 20000 in
set_option maxHeartbeats 1000000 in
theorem c_isLaw {S : Nat × (Nat → Int32)} {d n : Nat} {ξ : Nat → Nat → Int32} {ρ : zRho} (x : Int32) : Zc S (d + 1) jX5_isLaw [.int x] (zWof n ξ ρ) (fun r w => r = some (.int (zb (0 ≤ x ∧ x < 5))) ∧ w = zWof n ξ ρ) := by
  refine Zc_in (q := (5, 2, 3, 1, 1, 0, 0, zk_X5_isLaw)) rfl (Nat.le_of_ble_eq_true rfl) (L := [_]) rfl ?_
  refine zr_iload_n 1 rfl rfl rfl ?_
  refine zr_if_lt 13 4 rfl rfl (by decide) (fun c1z => ?_) (fun c1z => ?_)
  · refine zr_iconst 14 (x := 0) rfl rfl (by decide) ?_
    refine zr_zret rfl rfl (Or.inl rfl) ?_
    refine ⟨?_, rfl⟩
    first | (simp [zb, *]; done) | grind [zb]
  · refine zr_iload_n 5 rfl rfl rfl ?_
    refine zr_iconst 6 (x := 5) rfl rfl (by decide) ?_
    refine zr_icmp_ge 13 9 rfl rfl (by decide) (fun c6z => ?_) (fun c6z => ?_)
    · refine zr_iconst 14 (x := 0) rfl rfl (by decide) ?_
      refine zr_zret rfl rfl (Or.inl rfl) ?_
      refine ⟨?_, rfl⟩
      first | (simp [zb, *]; done) | grind [zb]
    · refine zr_iconst 10 (x := 1) rfl rfl (by decide) ?_
      refine zr_goto 14 rfl (by decide) ?_
      refine zr_zret rfl rfl (Or.inr rfl) ?_
      refine ⟨?_, rfl⟩
      first | (simp [zb, *]; done) | grind [zb]
set_option maxRecDepth 20000 in
set_option maxHeartbeats 1000000 in
theorem c_isKind {S : Nat × (Nat → Int32)} {d n : Nat} {ξ : Nat → Nat → Int32} {ρ : zRho} (x : Int32) : Zc S (d + 1) jX5_isKind [.int x] (zWof n ξ ρ) (fun r w => r = some (.int (zb (0 ≤ x ∧ x < 6))) ∧ w = zWof n ξ ρ) := by
  refine Zc_in (q := (5, 2, 3, 1, 1, 0, 0, zk_X5_isKind)) rfl (Nat.le_of_ble_eq_true rfl) (L := [_]) rfl ?_
  refine zr_iload_n 1 rfl rfl rfl ?_
  refine zr_if_lt 14 4 rfl rfl (by decide) (fun c1z => ?_) (fun c1z => ?_)
  · refine zr_iconst 15 (x := 0) rfl rfl (by decide) ?_
    refine zr_zret rfl rfl (Or.inl rfl) ?_
    refine ⟨?_, rfl⟩
    first | (simp [zb, *]; done) | grind [zb]
  · refine zr_iload_n 5 rfl rfl rfl ?_
    refine zr_bipush 7 (x := 6) rfl rfl (by decide) ?_
    refine zr_icmp_ge 14 10 rfl rfl (by decide) (fun c7z => ?_) (fun c7z => ?_)
    · refine zr_iconst 15 (x := 0) rfl rfl (by decide) ?_
      refine zr_zret rfl rfl (Or.inl rfl) ?_
      refine ⟨?_, rfl⟩
      first | (simp [zb, *]; done) | grind [zb]
    · refine zr_iconst 11 (x := 1) rfl rfl (by decide) ?_
      refine zr_goto 15 rfl (by decide) ?_
      refine zr_zret rfl rfl (Or.inr rfl) ?_
      refine ⟨?_, rfl⟩
      first | (simp [zb, *]; done) | grind [zb]
set_option maxRecDepth 20000 in
set_option maxHeartbeats 1000000 in
theorem c_isSheet {S : Nat × (Nat → Int32)} {d n : Nat} {ξ : Nat → Nat → Int32} {ρ : zRho} (x : Int32) : Zc S (d + 1) jX5_isSheet [.int x] (zWof n ξ ρ) (fun r w => r = some (.int (zb (0 ≤ x ∧ x < 4))) ∧ w = zWof n ξ ρ) := by
  refine Zc_in (q := (5, 2, 3, 1, 1, 0, 0, zk_X5_isSheet)) rfl (Nat.le_of_ble_eq_true rfl) (L := [_]) rfl ?_
  refine zr_iload_n 1 rfl rfl rfl ?_
  refine zr_if_lt 13 4 rfl rfl (by decide) (fun c1z => ?_) (fun c1z => ?_)
  · refine zr_iconst 14 (x := 0) rfl rfl (by decide) ?_
    refine zr_zret rfl rfl (Or.inl rfl) ?_
    refine ⟨?_, rfl⟩
    first | (simp [zb, *]; done) | grind [zb]
  · refine zr_iload_n 5 rfl rfl rfl ?_
    refine zr_iconst 6 (x := 4) rfl rfl (by decide) ?_
    refine zr_icmp_ge 13 9 rfl rfl (by decide) (fun c6z => ?_) (fun c6z => ?_)
    · refine zr_iconst 14 (x := 0) rfl rfl (by decide) ?_
      refine zr_zret rfl rfl (Or.inl rfl) ?_
      refine ⟨?_, rfl⟩
      first | (simp [zb, *]; done) | grind [zb]
    · refine zr_iconst 10 (x := 1) rfl rfl (by decide) ?_
      refine zr_goto 14 rfl (by decide) ?_
      refine zr_zret rfl rfl (Or.inr rfl) ?_
      refine ⟨?_, rfl⟩
      first | (simp [zb, *]; done) | grind [zb]
set_option maxRecDepth 20000 in
set_option maxHeartbeats 1000000 in
theorem c_isShelf {S : Nat × (Nat → Int32)} {d n : Nat} {ξ : Nat → Nat → Int32} {ρ : zRho} (x : Int32) : Zc S (d + 1) jX5_isShelf [.int x] (zWof n ξ ρ) (fun r w => r = some (.int (zb (0 ≤ x ∧ x < 4))) ∧ w = zWof n ξ ρ) := by
  refine Zc_in (q := (5, 2, 3, 1, 1, 0, 0, zk_X5_isShelf)) rfl (Nat.le_of_ble_eq_true rfl) (L := [_]) rfl ?_
  refine zr_iload_n 1 rfl rfl rfl ?_
  refine zr_if_lt 13 4 rfl rfl (by decide) (fun c1z => ?_) (fun c1z => ?_)
  · refine zr_iconst 14 (x := 0) rfl rfl (by decide) ?_
    refine zr_zret rfl rfl (Or.inl rfl) ?_
    refine ⟨?_, rfl⟩
    first | (simp [zb, *]; done) | grind [zb]
  · refine zr_iload_n 5 rfl rfl rfl ?_
    refine zr_iconst 6 (x := 4) rfl rfl (by decide) ?_
    refine zr_icmp_ge 13 9 rfl rfl (by decide) (fun c6z => ?_) (fun c6z => ?_)
    · refine zr_iconst 14 (x := 0) rfl rfl (by decide) ?_
      refine zr_zret rfl rfl (Or.inl rfl) ?_
      refine ⟨?_, rfl⟩
      first | (simp [zb, *]; done) | grind [zb]
    · refine zr_iconst 10 (x := 1) rfl rfl (by decide) ?_
      refine zr_goto 14 rfl (by decide) ?_
      refine zr_zret rfl rfl (Or.inr rfl) ?_
      refine ⟨?_, rfl⟩
      first | (simp [zb, *]; done) | grind [zb]
set_option maxRecDepth 20000 in
set_option maxHeartbeats 1000000 in
theorem c_isA {S : Nat × (Nat → Int32)} {d n : Nat} {ξ : Nat → Nat → Int32} {ρ : zRho} (x : Int32) : Zc S (d + 1) jX5_isA [.int x] (zWof n ξ ρ) (fun r w => r = some (.int (zb (0 ≤ x ∧ x ≤ 9))) ∧ w = zWof n ξ ρ) := by
  refine Zc_in (q := (5, 2, 3, 1, 1, 0, 0, zk_X5_isA)) rfl (Nat.le_of_ble_eq_true rfl) (L := [_]) rfl ?_
  refine zr_iload_n 1 rfl rfl rfl ?_
  refine zr_if_lt 14 4 rfl rfl (by decide) (fun c1z => ?_) (fun c1z => ?_)
  · refine zr_iconst 15 (x := 0) rfl rfl (by decide) ?_
    refine zr_zret rfl rfl (Or.inl rfl) ?_
    refine ⟨?_, rfl⟩
    first | (simp [zb, *]; done) | grind [zb]
  · refine zr_iload_n 5 rfl rfl rfl ?_
    refine zr_bipush 7 (x := 9) rfl rfl (by decide) ?_
    refine zr_icmp_gt 14 10 rfl rfl (by decide) (fun c7z => ?_) (fun c7z => ?_)
    · refine zr_iconst 15 (x := 0) rfl rfl (by decide) ?_
      refine zr_zret rfl rfl (Or.inl rfl) ?_
      refine ⟨?_, rfl⟩
      first | (simp [zb, *]; done) | grind [zb]
    · refine zr_iconst 11 (x := 1) rfl rfl (by decide) ?_
      refine zr_goto 15 rfl (by decide) ?_
      refine zr_zret rfl rfl (Or.inr rfl) ?_
      refine ⟨?_, rfl⟩
      first | (simp [zb, *]; done) | grind [zb]
set_option maxRecDepth 20000 in
set_option maxHeartbeats 1000000 in
theorem c_isPerson {S : Nat × (Nat → Int32)} {d n : Nat} {ξ : Nat → Nat → Int32} {ρ : zRho} (x : Int32) : Zc S (d + 1) jX5_isPerson [.ref 0, .int x] (zWof n ξ ρ) (fun r w => r = some (.int (zb (0 ≤ x ∧ x < ξ 1 5))) ∧ w = zWof n ξ ρ) := by
  refine Zc_in (q := (5, 0, 3, 1, 2, 0, 0, zk_X5_isPerson)) rfl (Nat.le_of_ble_eq_true rfl) (L := [_, _]) rfl ?_
  refine zr_iload_n 1 rfl rfl rfl ?_
  refine zr_if_lt 19 4 rfl rfl (by decide) (fun c1z => ?_) (fun c1z => ?_)
  · refine zr_iconst 20 (x := 0) rfl rfl (by decide) ?_
    refine zr_zret rfl rfl (Or.inl rfl) ?_
    refine ⟨?_, rfl⟩
    first | (simp [zb, *]; done) | grind [zb]
  · refine zr_iload_n 5 rfl rfl rfl ?_
    refine zr_aload_n 6 rfl rfl rfl trivial ?_
    refine zr_getf 9 rfl rfl rfl rfl rfl ?_
    refine zr_getf 12 rfl rfl rfl rfl rfl ?_
    refine zr_icmp_ge 19 15 rfl rfl (by decide) (fun c12z => ?_) (fun c12z => ?_)
    · refine zr_iconst 20 (x := 0) rfl rfl (by decide) ?_
      refine zr_zret rfl rfl (Or.inl rfl) ?_
      refine ⟨?_, rfl⟩
      first | (simp [zb, *]; done) | grind [zb]
    · refine zr_iconst 16 (x := 1) rfl rfl (by decide) ?_
      refine zr_goto 20 rfl (by decide) ?_
      refine zr_zret rfl rfl (Or.inr rfl) ?_
      refine ⟨?_, rfl⟩
      first | (simp [zb, *]; done) | grind [zb]
set_option maxRecDepth 20000 in
set_option maxHeartbeats 1000000 in
theorem c_isRowPart {S : Nat × (Nat → Int32)} {d n : Nat} {ξ : Nat → Nat → Int32} {ρ : zRho} (i what : Int32) : Zc S (d + 1) jX5_isRowPart [.ref 0, .int i, .int what] (zWof n ξ ρ) (fun r w => r = some (.int (zb (0 ≤ i ∧ i < ξ 0 6 ∧ 0 ≤ what ∧ what < 3))) ∧ w = zWof n ξ ρ) := by
  refine Zc_in (q := (5, 0, 3, 2, 3, 0, 0, zk_X5_isRowPart)) rfl (Nat.le_of_ble_eq_true rfl) (L := [_, _, _]) rfl ?_
  refine zr_iload_n 1 rfl rfl rfl ?_
  refine zr_if_lt 25 4 rfl rfl (by decide) (fun c1z => ?_) (fun c1z => ?_)
  · refine zr_iconst 26 (x := 0) rfl rfl (by decide) ?_
    refine zr_zret rfl rfl (Or.inl rfl) ?_
    refine ⟨?_, rfl⟩
    first | (simp [zb, *]; done) | grind [zb]
  · refine zr_iload_n 5 rfl rfl rfl ?_
    refine zr_aload_n 6 rfl rfl rfl trivial ?_
    refine zr_getf 9 rfl rfl rfl rfl rfl ?_
    refine zr_icmp_ge 25 12 rfl rfl (by decide) (fun c9z => ?_) (fun c9z => ?_)
    · refine zr_iconst 26 (x := 0) rfl rfl (by decide) ?_
      refine zr_zret rfl rfl (Or.inl rfl) ?_
      refine ⟨?_, rfl⟩
      first | (simp [zb, *]; done) | grind [zb]
    · refine zr_iload_n 13 rfl rfl rfl ?_
      refine zr_if_lt 25 16 rfl rfl (by decide) (fun c13z => ?_) (fun c13z => ?_)
      · refine zr_iconst 26 (x := 0) rfl rfl (by decide) ?_
        refine zr_zret rfl rfl (Or.inl rfl) ?_
        refine ⟨?_, rfl⟩
        first | (simp [zb, *]; done) | grind [zb]
      · refine zr_iload_n 17 rfl rfl rfl ?_
        refine zr_iconst 18 (x := 3) rfl rfl (by decide) ?_
        refine zr_icmp_ge 25 21 rfl rfl (by decide) (fun c18z => ?_) (fun c18z => ?_)
        · refine zr_iconst 26 (x := 0) rfl rfl (by decide) ?_
          refine zr_zret rfl rfl (Or.inl rfl) ?_
          refine ⟨?_, rfl⟩
          first | (simp [zb, *]; done) | grind [zb]
        · refine zr_iconst 22 (x := 1) rfl rfl (by decide) ?_
          refine zr_goto 26 rfl (by decide) ?_
          refine zr_zret rfl rfl (Or.inr rfl) ?_
          refine ⟨?_, rfl⟩
          first | (simp [zb, *]; done) | grind [zb]
set_option maxRecDepth 20000 in
set_option maxHeartbeats 1000000 in
theorem c_today {S : Nat × (Nat → Int32)} {d n : Nat} {ξ : Nat → Nat → Int32} {ρ : zRho}  : Zc S (d + 1) jX5_today [.ref 0] (zWof n ξ ρ) (fun r w => r = some (.int (ξ 1 6)) ∧ w = zWof n ξ ρ) := by
  refine Zc_in (q := (5, 0, 1, 0, 1, 0, 0, zk_X5_today)) rfl (Nat.le_of_ble_eq_true rfl) (L := [_]) rfl ?_
  refine zr_aload_n 1 rfl rfl rfl trivial ?_
  refine zr_getf 4 rfl rfl rfl rfl rfl ?_
  refine zr_getf 7 rfl rfl rfl rfl rfl ?_
  refine zr_iret rfl rfl ?_
  exact ⟨rfl, rfl⟩
set_option maxRecDepth 20000 in
set_option maxHeartbeats 1000000 in
theorem c_seed {S : Nat × (Nat → Int32)} {d n : Nat} {ξ : Nat → Nat → Int32} {ρ : zRho} (v : Int32) : Zc S (d + 1) jX5_seed [.ref 0, .int v] (zWof n ξ ρ) (fun r w => r = some (.int (ξ 1 7)) ∧ w = zWof n (zu ξ 1 7 v) ρ) := by
  refine Zc_in (q := (5, 0, 1, 1, 3, 0, 0, zk_X5_seed)) rfl (Nat.le_of_ble_eq_true rfl) (L := [_, _, _]) rfl ?_
  refine zr_aload_n 1 rfl rfl rfl trivial ?_
  refine zr_getf 4 rfl rfl rfl rfl rfl ?_
  refine zr_getf 7 rfl rfl rfl rfl rfl ?_
  refine zr_istore_n 8 (L2 := [_, _, _]) rfl rfl (Nat.le_of_ble_eq_true rfl) (by first | exact trivial | exact rfl) rfl ?_
  refine zr_aload_n 9 rfl rfl rfl trivial ?_
  refine zr_getf 12 rfl rfl rfl rfl rfl ?_
  refine zr_iload_n 13 rfl rfl rfl ?_
  refine zr_putf 16 rfl rfl rfl rfl (Nat.le_of_ble_eq_true rfl) rfl trivial (fun h => by cases h) (zW_set (k := 7) rfl) ?_
  refine zr_iload_n 17 rfl rfl rfl ?_
  refine zr_iret rfl rfl ?_
  exact ⟨rfl, rfl⟩
set_option maxRecDepth 20000 in
set_option maxHeartbeats 1000000 in
theorem c_lawOf {S : Nat × (Nat → Int32)} {d n : Nat} {ξ : Nat → Nat → Int32} {ρ : zRho} (x : Int32) : Zc S (d + 2) jX5_lawOf [.ref 0, .int x] (zWof n ξ ρ) (fun r w => r = some (.int (if 0 ≤ x ∧ x < 5 then ξ 2 x.toNatClampNeg else -1)) ∧ w = zWof n ξ ρ) := by
  refine Zc_in (q := (5, 0, 1, 1, 2, 0, 0, zk_X5_lawOf)) rfl (Nat.le_of_ble_eq_true rfl) (L := [_, _]) rfl ?_
  refine zr_iload_n 1 rfl rfl rfl ?_
  refine zr_calls 4 (As := [_]) (u2 := (0, 0)) rfl rfl rfl rfl rfl rfl rfl (Nat.le_of_ble_eq_true rfl) (Nat.le_of_ble_eq_true rfl) (Nat.le_of_ble_eq_true rfl) (c_isLaw _) rfl (fun v2 w2 h1z => ?_)
  obtain ⟨rfl, rfl⟩ := h1z
  refine zr_if_eq 19 7 rfl rfl (by decide) (fun c4z => ?_) (fun c4z => ?_)
  · replace c4z := zb_0.mp c4z
    refine zr_iconst 20 (x := (-1)) rfl rfl (by decide) ?_
    refine zr_iret rfl rfl ?_
    refine ⟨?_, rfl⟩
    first | (simp [zb, *]; done) | grind [zb]
  · replace c4z := zb_n0.mp c4z
    refine zr_aload_n 8 rfl rfl rfl trivial ?_
    refine zr_getf 11 rfl rfl rfl rfl rfl ?_
    refine zr_getf 14 rfl rfl rfl rfl rfl ?_
    refine zr_iload_n 15 rfl rfl rfl ?_
    refine zr_iald 16 rfl rfl rfl rfl (zvin_lt c4z.1 c4z.2 (by decide)) ?_
    refine zr_goto 20 rfl (by decide) ?_
    refine zr_iret rfl rfl ?_
    refine ⟨?_, rfl⟩
    first | (simp [zb, *]; done) | grind [zb]
set_option maxRecDepth 20000 in
set_option maxHeartbeats 1000000 in
theorem c_dateOf {S : Nat × (Nat → Int32)} {d n : Nat} {ξ : Nat → Nat → Int32} {ρ : zRho} {D : Nat} (hD : ξ 1 4 = nI D) (h3 : D ≤ 3) (i what : Int32) : Zc S (d + 1) jX5_dateOf [.ref 0, .int i, .int what] (zWof n ξ ρ) (fun r w => r = some (.int (if ¬ (what = 0 ∨ what = 1) then -1 else if ¬ (0 ≤ i ∧ i < ξ 1 4) then -3 else if what = 0 then ξ 3 i.toNatClampNeg else ξ 4 i.toNatClampNeg)) ∧ w = zWof n ξ ρ) := by
  refine Zc_in (q := (5, 0, 1, 2, 3, 0, 0, zk_X5_dateOf)) rfl (Nat.le_of_ble_eq_true rfl) (L := [_, _, _]) rfl ?_
  refine zr_iload_n 1 rfl rfl rfl ?_
  refine zr_if_eq 11 4 rfl rfl (by decide) (fun c1z => ?_) (fun c1z => ?_)
  · refine zr_iload_n 12 rfl rfl rfl ?_
    refine zr_if_lt 26 15 rfl rfl (by decide) (fun c12z => ?_) (fun c12z => ?_)
    · refine zr_bipush 28 (x := (-3)) rfl rfl (by decide) ?_
      refine zr_iret rfl rfl ?_
      refine ⟨?_, rfl⟩
      congr 2
      grind
    · refine zr_iload_n 16 rfl rfl rfl ?_
      refine zr_aload_n 17 rfl rfl rfl trivial ?_
      refine zr_getf 20 rfl rfl rfl rfl rfl ?_
      refine zr_getf 23 rfl rfl rfl rfl rfl ?_
      refine zr_icmp_lt 29 26 rfl rfl (by decide) (fun c23z => ?_) (fun c23z => ?_)
      · refine zr_iload_n 30 rfl rfl rfl ?_
        refine zr_if_ne 45 33 rfl rfl (by decide) (fun c30z => ?_) (fun c30z => ?_)
        · refine zr_aload_n 46 rfl rfl rfl trivial ?_
          refine zr_getf 49 rfl rfl rfl rfl rfl ?_
          refine zr_getf 52 rfl rfl rfl rfl rfl ?_
          refine zr_iload_n 53 rfl rfl rfl ?_
          refine zr_iald 54 rfl rfl rfl rfl (zpin (M := D) ⟨Int32.not_lt.mp c12z, by rw [← hD]; exact c23z⟩ (by omega) h3) ?_
          refine zr_iret rfl rfl ?_
          refine ⟨?_, rfl⟩
          congr 2
          grind
        · refine zr_aload_n 34 rfl rfl rfl trivial ?_
          refine zr_getf 37 rfl rfl rfl rfl rfl ?_
          refine zr_getf 40 rfl rfl rfl rfl rfl ?_
          refine zr_iload_n 41 rfl rfl rfl ?_
          refine zr_iald 42 rfl rfl rfl rfl (zpin (M := D) ⟨Int32.not_lt.mp c12z, by rw [← hD]; exact c23z⟩ (by omega) h3) ?_
          refine zr_goto 54 rfl (by decide) ?_
          refine zr_iret rfl rfl ?_
          refine ⟨?_, rfl⟩
          congr 2
          grind
      · refine zr_bipush 28 (x := (-3)) rfl rfl (by decide) ?_
        refine zr_iret rfl rfl ?_
        refine ⟨?_, rfl⟩
        congr 2
        grind
  · refine zr_iload_n 5 rfl rfl rfl ?_
    refine zr_iconst 6 (x := 1) rfl rfl (by decide) ?_
    refine zr_icmp_eq 11 9 rfl rfl (by decide) (fun c6z => ?_) (fun c6z => ?_)
    · refine zr_iload_n 12 rfl rfl rfl ?_
      refine zr_if_lt 26 15 rfl rfl (by decide) (fun c12z => ?_) (fun c12z => ?_)
      · refine zr_bipush 28 (x := (-3)) rfl rfl (by decide) ?_
        refine zr_iret rfl rfl ?_
        refine ⟨?_, rfl⟩
        congr 2
        grind
      · refine zr_iload_n 16 rfl rfl rfl ?_
        refine zr_aload_n 17 rfl rfl rfl trivial ?_
        refine zr_getf 20 rfl rfl rfl rfl rfl ?_
        refine zr_getf 23 rfl rfl rfl rfl rfl ?_
        refine zr_icmp_lt 29 26 rfl rfl (by decide) (fun c23z => ?_) (fun c23z => ?_)
        · refine zr_iload_n 30 rfl rfl rfl ?_
          refine zr_if_ne 45 33 rfl rfl (by decide) (fun c30z => ?_) (fun c30z => ?_)
          · refine zr_aload_n 46 rfl rfl rfl trivial ?_
            refine zr_getf 49 rfl rfl rfl rfl rfl ?_
            refine zr_getf 52 rfl rfl rfl rfl rfl ?_
            refine zr_iload_n 53 rfl rfl rfl ?_
            refine zr_iald 54 rfl rfl rfl rfl (zpin (M := D) ⟨Int32.not_lt.mp c12z, by rw [← hD]; exact c23z⟩ (by omega) h3) ?_
            refine zr_iret rfl rfl ?_
            refine ⟨?_, rfl⟩
            congr 2
            grind
          · refine zr_aload_n 34 rfl rfl rfl trivial ?_
            refine zr_getf 37 rfl rfl rfl rfl rfl ?_
            refine zr_getf 40 rfl rfl rfl rfl rfl ?_
            refine zr_iload_n 41 rfl rfl rfl ?_
            refine zr_iald 42 rfl rfl rfl rfl (zpin (M := D) ⟨Int32.not_lt.mp c12z, by rw [← hD]; exact c23z⟩ (by omega) h3) ?_
            refine zr_goto 54 rfl (by decide) ?_
            refine zr_iret rfl rfl ?_
            refine ⟨?_, rfl⟩
            congr 2
            grind
        · refine zr_bipush 28 (x := (-3)) rfl rfl (by decide) ?_
          refine zr_iret rfl rfl ?_
          refine ⟨?_, rfl⟩
          congr 2
          grind
    · refine zr_iconst 10 (x := (-1)) rfl rfl (by decide) ?_
      refine zr_iret rfl rfl ?_
      refine ⟨?_, rfl⟩
      congr 2
      grind
set_option maxRecDepth 20000 in
set_option maxHeartbeats 1000000 in
theorem c_personOf {S : Nat × (Nat → Int32)} {d n : Nat} {ξ : Nat → Nat → Int32} {ρ : zRho} {M : Nat} (hM : ξ 1 5 = nI M) (h6 : M ≤ 6) (p what : Int32) : Zc S (d + 3) jX5_personOf [.ref 0, .int p, .int what] (zWof n ξ ρ) (fun r w => r = some (.int (if ¬ (0 ≤ p ∧ p < ξ 1 5) then -1 else if what = 0 then ξ (1 + 5 + p.toNatClampNeg) 0 else if what = 1 then ξ (1 + 5 + p.toNatClampNeg) 1 else if what = 2 then ξ (1 + 5 + p.toNatClampNeg) 2 else if what = 3 then ξ (1 + 5 + p.toNatClampNeg) 3 else if what = 4 then ξ (1 + 5 + p.toNatClampNeg) 4 else if what = 5 then ξ (1 + 5 + p.toNatClampNeg) 5 else if what = 6 then ξ (1 + 5 + p.toNatClampNeg) 6 else if what = 7 then (if ξ (1 + 5 + p.toNatClampNeg) 5 = -9 then -9 else zmarkP ξ 1 (ξ (1 + 5 + p.toNatClampNeg) 5) (ξ (1 + 5 + p.toNatClampNeg) 6)) else -1)) ∧ w = zWof n ξ ρ) := by
  refine Zc_in (q := (5, 0, 1, 2, 4, 0, 0, zk_X5_personOf)) rfl (Nat.le_of_ble_eq_true rfl) (L := [_, _, _, _]) rfl ?_
  refine zr_aload_n 1 rfl rfl rfl trivial ?_
  refine zr_iload_n 2 rfl rfl rfl ?_
  refine zr_callv 5 (As := [_]) (u2 := (0, 0)) rfl rfl rfl rfl rfl rfl rfl (Nat.le_of_ble_eq_true rfl) (Nat.le_of_ble_eq_true rfl) (Nat.le_of_ble_eq_true rfl) rfl (c_isPerson _) rfl (fun v2 w2 h2z => ?_)
  obtain ⟨rfl, rfl⟩ := h2z
  refine zr_if_ne 10 8 rfl rfl (by decide) (fun c5z => ?_) (fun c5z => ?_)
  · replace c5z := zb_n0.mp c5z
    have hpi := zpidx (M := M) ⟨c5z.1, by rw [← hM]; exact c5z.2⟩ (by omega)
    refine zr_aload_n 11 rfl rfl rfl trivial ?_
    refine zr_getf 14 rfl rfl rfl rfl rfl ?_
    refine zr_getf 17 rfl rfl rfl rfl rfl ?_
    refine zr_iload_n 18 rfl rfl rfl ?_
    refine zr_aald 19 rfl rfl rfl (by decide) rfl (zpin (M := M) ⟨c5z.1, by rw [← hM]; exact c5z.2⟩ (by omega) h6) (zrf_ps (by omega)) ?_
    refine zr_astore_n 20 (L2 := [_, _, _, _]) rfl rfl trivial (Nat.le_of_ble_eq_true rfl) (by first | exact trivial | exact rfl) rfl ?_
    refine zr_iload_n 21 rfl rfl rfl ?_
    by_cases s21_0 : what = 0
    · refine zr_tsw_in 68 0 rfl (by rw [s21_0]; decide) (by decide) rfl (by decide) ?_
      refine zr_aload_n 69 rfl rfl rfl trivial ?_
      refine zr_getf 72 rfl rfl rfl (zc_pe (zP zc1 (by omega))) rfl ?_
      refine zr_iret rfl rfl ?_
      refine ⟨?_, rfl⟩
      first | (simp_all [zmarkP]; done) | grind [zmarkP]
    by_cases s21_1 : what = 1
    · refine zr_tsw_in 73 1 rfl (by rw [s21_1]; decide) (by decide) rfl (by decide) ?_
      refine zr_aload_n 74 rfl rfl rfl trivial ?_
      refine zr_getf 77 rfl rfl rfl (zc_pe (zP zc1 (by omega))) rfl ?_
      refine zr_iret rfl rfl ?_
      refine ⟨?_, rfl⟩
      first | (simp_all [zmarkP]; done) | grind [zmarkP]
    by_cases s21_2 : what = 2
    · refine zr_tsw_in 78 2 rfl (by rw [s21_2]; decide) (by decide) rfl (by decide) ?_
      refine zr_aload_n 79 rfl rfl rfl trivial ?_
      refine zr_getf 82 rfl rfl rfl (zc_pe (zP zc1 (by omega))) rfl ?_
      refine zr_iret rfl rfl ?_
      refine ⟨?_, rfl⟩
      first | (simp_all [zmarkP]; done) | grind [zmarkP]
    by_cases s21_3 : what = 3
    · refine zr_tsw_in 83 3 rfl (by rw [s21_3]; decide) (by decide) rfl (by decide) ?_
      refine zr_aload_n 84 rfl rfl rfl trivial ?_
      refine zr_getf 87 rfl rfl rfl (zc_pe (zP zc1 (by omega))) rfl ?_
      refine zr_iret rfl rfl ?_
      refine ⟨?_, rfl⟩
      first | (simp_all [zmarkP]; done) | grind [zmarkP]
    by_cases s21_4 : what = 4
    · refine zr_tsw_in 88 4 rfl (by rw [s21_4]; decide) (by decide) rfl (by decide) ?_
      refine zr_aload_n 89 rfl rfl rfl trivial ?_
      refine zr_getf 92 rfl rfl rfl (zc_pe (zP zc1 (by omega))) rfl ?_
      refine zr_iret rfl rfl ?_
      refine ⟨?_, rfl⟩
      first | (simp_all [zmarkP]; done) | grind [zmarkP]
    by_cases s21_5 : what = 5
    · refine zr_tsw_in 93 5 rfl (by rw [s21_5]; decide) (by decide) rfl (by decide) ?_
      refine zr_aload_n 94 rfl rfl rfl trivial ?_
      refine zr_callv 97 (As := []) (u2 := (0, 0)) rfl rfl rfl rfl rfl rfl rfl (Nat.le_of_ble_eq_true rfl) (Nat.le_of_ble_eq_true rfl) (Nat.le_of_ble_eq_true rfl) (zc_pe (zP zc1 (by omega))) (c_hasHanded (zP zc1 (by omega))) rfl (fun v2 w2 h94z => ?_)
      obtain ⟨rfl, rfl⟩ := h94z
      refine zr_if_eq 107 100 rfl rfl (by decide) (fun c97z => ?_) (fun c97z => ?_)
      · replace c97z := zb_0.mp c97z
        refine zr_bipush 109 (x := (-9)) rfl rfl (by decide) ?_
        refine zr_iret rfl rfl ?_
        refine ⟨?_, rfl⟩
        first | (simp_all [zmarkP]; done) | grind [zmarkP]
      · replace c97z := zb_n0.mp c97z
        refine zr_aload_n 101 rfl rfl rfl trivial ?_
        refine zr_getf 104 rfl rfl rfl (zc_pe (zP zc1 (by omega))) rfl ?_
        refine zr_goto 109 rfl (by decide) ?_
        refine zr_iret rfl rfl ?_
        refine ⟨?_, rfl⟩
        first | (simp_all [zmarkP]; done) | grind [zmarkP]
    by_cases s21_6 : what = 6
    · refine zr_tsw_in 110 6 rfl (by rw [s21_6]; decide) (by decide) rfl (by decide) ?_
      refine zr_aload_n 111 rfl rfl rfl trivial ?_
      refine zr_getf 114 rfl rfl rfl (zc_pe (zP zc1 (by omega))) rfl ?_
      refine zr_iret rfl rfl ?_
      refine ⟨?_, rfl⟩
      first | (simp_all [zmarkP]; done) | grind [zmarkP]
    by_cases s21_7 : what = 7
    · refine zr_tsw_in 115 7 rfl (by rw [s21_7]; decide) (by decide) rfl (by decide) ?_
      refine zr_aload_n 116 rfl rfl rfl trivial ?_
      refine zr_callv 119 (As := []) (u2 := (0, 0)) rfl rfl rfl rfl rfl rfl rfl (Nat.le_of_ble_eq_true rfl) (Nat.le_of_ble_eq_true rfl) (Nat.le_of_ble_eq_true rfl) (zc_pe (zP zc1 (by omega))) (c_hasHanded (zP zc1 (by omega))) rfl (fun v2 w2 h116z => ?_)
      obtain ⟨rfl, rfl⟩ := h116z
      refine zr_if_eq 133 122 rfl rfl (by decide) (fun c119z => ?_) (fun c119z => ?_)
      · replace c119z := zb_0.mp c119z
        refine zr_bipush 135 (x := (-9)) rfl rfl (by decide) ?_
        refine zr_iret rfl rfl ?_
        refine ⟨?_, rfl⟩
        first | (simp_all [zmarkP]; done) | grind [zmarkP]
      · replace c119z := zb_n0.mp c119z
        refine zr_aload_n 123 rfl rfl rfl trivial ?_
        refine zr_getf 126 rfl rfl rfl rfl rfl ?_
        refine zr_aload_n 127 rfl rfl rfl trivial ?_
        refine zr_callv 130 (As := [_]) (u2 := (0, 0)) rfl rfl rfl rfl rfl rfl rfl (Nat.le_of_ble_eq_true rfl) (Nat.le_of_ble_eq_true rfl) (Nat.le_of_ble_eq_true rfl) rfl (c_markFor zc1 (zP zc1 (by omega))) rfl (fun v2 w2 h127z => ?_)
        obtain ⟨rfl, rfl⟩ := h127z
        refine zr_goto 135 rfl (by decide) ?_
        refine zr_iret rfl rfl ?_
        refine ⟨?_, rfl⟩
        first | (simp_all [zmarkP]; done) | grind [zmarkP]
    refine zr_tsw_out 136 rfl (by have q0 := zne_i s21_0; have q1 := zne_i s21_1; have q2 := zne_i s21_2; have q3 := zne_i s21_3; have q4 := zne_i s21_4; have q5 := zne_i s21_5; have q6 := zne_i s21_6; have q7 := zne_i s21_7; rw [show (0 : Int32).toInt = 0 by decide] at q0; rw [show (1 : Int32).toInt = 1 by decide] at q1; rw [show (2 : Int32).toInt = 2 by decide] at q2; rw [show (3 : Int32).toInt = 3 by decide] at q3; rw [show (4 : Int32).toInt = 4 by decide] at q4; rw [show (5 : Int32).toInt = 5 by decide] at q5; rw [show (6 : Int32).toInt = 6 by decide] at q6; rw [show (7 : Int32).toInt = 7 by decide] at q7; omega) (by decide) ?_
    refine zr_iconst 137 (x := (-1)) rfl rfl (by decide) ?_
    refine zr_iret rfl rfl ?_
    refine ⟨?_, rfl⟩
    first | (simp_all [zmarkP]; done) | grind [zmarkP]
  · replace c5z := zb_0.mp c5z
    refine zr_iconst 9 (x := (-1)) rfl rfl (by decide) ?_
    refine zr_iret rfl rfl ?_
    refine ⟨?_, rfl⟩
    first | (simp_all [zmarkP]; done) | grind [zmarkP]
set_option maxRecDepth 20000 in
set_option maxHeartbeats 1000000 in
theorem c_mind {S : Nat × (Nat → Int32)} {d n : Nat} {ξ : Nat → Nat → Int32} {ρ : zRho} {M : Nat} (hM : ξ 1 5 = nI M) (h6 : M ≤ 6) (p kd a : Int32) : Zc S (d + 2) jX5_mind [.ref 0, .int p, .int kd, .int a] (zWof n ξ ρ) (fun r w => (¬ ((0 ≤ p ∧ p < ξ 1 5) ∧ (0 ≤ kd ∧ kd < 6) ∧ (0 ≤ a ∧ a ≤ 9)) → r = some (.int (-1)) ∧ w = zWof n ξ ρ) ∧ ((0 ≤ p ∧ p < ξ 1 5) ∧ (0 ≤ kd ∧ kd < 6) ∧ (0 ≤ a ∧ a ≤ 9) → r = some (.int (ξ (1 + 5 + p.toNatClampNeg) 0)) ∧ w = zWof n (zu (zu ξ (1 + 5 + p.toNatClampNeg) 0 kd) (1 + 5 + p.toNatClampNeg) 1 a) ρ)) := by
  refine Zc_in (q := (5, 0, 1, 3, 6, 0, 0, zk_X5_mind)) rfl (Nat.le_of_ble_eq_true rfl) (L := [_, _, _, _, _, _]) rfl ?_
  refine zr_aload_n 1 rfl rfl rfl trivial ?_
  refine zr_iload_n 2 rfl rfl rfl ?_
  refine zr_callv 5 (As := [_]) (u2 := (0, 0)) rfl rfl rfl rfl rfl rfl rfl (Nat.le_of_ble_eq_true rfl) (Nat.le_of_ble_eq_true rfl) (Nat.le_of_ble_eq_true rfl) rfl (c_isPerson _) rfl (fun v2 w2 h2z => ?_)
  obtain ⟨rfl, rfl⟩ := h2z
  refine zr_if_eq 22 8 rfl rfl (by decide) (fun c5z => ?_) (fun c5z => ?_)
  · replace c5z := zb_0.mp c5z
    refine zr_iconst 23 (x := (-1)) rfl rfl (by decide) ?_
    refine zr_iret rfl rfl ?_
    exact ⟨fun _ => ⟨rfl, rfl⟩, fun h => absurd h (by grind)⟩
  · replace c5z := zb_n0.mp c5z
    have hpi := zpidx (M := M) ⟨c5z.1, by rw [← hM]; exact c5z.2⟩ (by omega)
    refine zr_iload_n 9 rfl rfl rfl ?_
    refine zr_calls 12 (As := [_]) (u2 := (0, 0)) rfl rfl rfl rfl rfl rfl rfl (Nat.le_of_ble_eq_true rfl) (Nat.le_of_ble_eq_true rfl) (Nat.le_of_ble_eq_true rfl) (c_isKind _) rfl (fun v2 w2 h9z => ?_)
    obtain ⟨rfl, rfl⟩ := h9z
    refine zr_if_eq 22 15 rfl rfl (by decide) (fun c12z => ?_) (fun c12z => ?_)
    · replace c12z := zb_0.mp c12z
      refine zr_iconst 23 (x := (-1)) rfl rfl (by decide) ?_
      refine zr_iret rfl rfl ?_
      exact ⟨fun _ => ⟨rfl, rfl⟩, fun h => absurd h (by grind)⟩
    · replace c12z := zb_n0.mp c12z
      refine zr_iload_n 16 rfl rfl rfl ?_
      refine zr_calls 19 (As := [_]) (u2 := (0, 0)) rfl rfl rfl rfl rfl rfl rfl (Nat.le_of_ble_eq_true rfl) (Nat.le_of_ble_eq_true rfl) (Nat.le_of_ble_eq_true rfl) (c_isA _) rfl (fun v2 w2 h16z => ?_)
      obtain ⟨rfl, rfl⟩ := h16z
      refine zr_if_ne 24 22 rfl rfl (by decide) (fun c19z => ?_) (fun c19z => ?_)
      · replace c19z := zb_n0.mp c19z
        refine zr_aload_n 25 rfl rfl rfl trivial ?_
        refine zr_getf 28 rfl rfl rfl rfl rfl ?_
        refine zr_getf 31 rfl rfl rfl rfl rfl ?_
        refine zr_iload_n 32 rfl rfl rfl ?_
        refine zr_aald 33 rfl rfl rfl (by decide) rfl (zpin (M := M) ⟨c5z.1, by rw [← hM]; exact c5z.2⟩ (by omega) h6) (zrf_ps (by omega)) ?_
        refine zr_astore 35 (L2 := [_, _, _, _, _, _]) rfl rfl trivial (Nat.le_of_ble_eq_true rfl) (by first | exact trivial | exact rfl) rfl ?_
        refine zr_aload 37 rfl rfl rfl trivial ?_
        refine zr_getf 40 rfl rfl rfl (zc_pe (zP zc1 (by omega))) rfl ?_
        refine zr_istore 42 (L2 := [_, _, _, _, _, _]) rfl rfl (Nat.le_of_ble_eq_true rfl) (by first | exact trivial | exact rfl) rfl ?_
        refine zr_aload 44 rfl rfl rfl trivial ?_
        refine zr_iload_n 45 rfl rfl rfl ?_
        refine zr_putf 48 rfl rfl rfl (zc_pe (zP zc1 (by omega))) (Nat.le_of_ble_eq_true rfl) rfl trivial (fun h => by cases h) (zs_pe (zP zc1 (by omega)) 0 (by decide) _) ?_
        refine zr_aload 50 rfl rfl rfl trivial ?_
        refine zr_iload_n 51 rfl rfl rfl ?_
        refine zr_putf 54 rfl rfl rfl (zc_pe (zP zc1 (by omega))) (Nat.le_of_ble_eq_true rfl) rfl trivial (fun h => by cases h) (zs_pe (zP zc1 (by omega)) 1 (by decide) _) ?_
        refine zr_iload 56 rfl rfl rfl ?_
        refine zr_iret rfl rfl ?_
        exact ⟨fun h => absurd ⟨c5z, c12z, c19z⟩ h, fun _ => ⟨rfl, rfl⟩⟩
      · replace c19z := zb_0.mp c19z
        refine zr_iconst 23 (x := (-1)) rfl rfl (by decide) ?_
        refine zr_iret rfl rfl ?_
        exact ⟨fun _ => ⟨rfl, rfl⟩, fun h => absurd h (by grind)⟩
theorem zrix {ξ : Nat → Nat → Int32} {R : Nat} (hR : ξ 0 6 = nI R) (h20 : R ≤ 20) {i what : Int32} (h : 0 ≤ i ∧ i < ξ 0 6 ∧ 0 ≤ what ∧ what < 3) : vp_in (i * 3 + what) 60 := by
  obtain ⟨h1, h2, h3, h4⟩ := h
  rw [hR] at h2
  have a1 := Int32.le_iff_toInt_le.mp h1
  have a2 := Int32.lt_iff_toInt_lt.mp h2
  have a3 := Int32.le_iff_toInt_le.mp h3
  have a4 := Int32.lt_iff_toInt_lt.mp h4
  rw [zI0] at a1 a3
  rw [nI_toInt (by omega)] at a2
  rw [show (3 : Int32).toInt = 3 by decide] at a4
  have e1 : (i * 3).toInt = i.toInt * 3 := by
    rw [Jvm.Kit.i32_mul (by rw [show (3 : Int32).toInt = 3 by decide]; omega) (by rw [show (3 : Int32).toInt = 3 by decide]; omega), show (3 : Int32).toInt = 3 by decide]
  have e2 : (i * 3 + what).toInt = i.toInt * 3 + what.toInt := by
    rw [Jvm.Kit.i32_add (by rw [e1]; omega) (by rw [e1]; omega), e1]
  rw [vp_in_iff, e2]
  omega
set_option maxRecDepth 20000 in
set_option maxHeartbeats 1000000 in
theorem c_row {S : Nat × (Nat → Int32)} {d n : Nat} {ξ : Nat → Nat → Int32} {ρ : zRho} {R : Nat} (hR : ξ 0 6 = nI R) (h20 : R ≤ 20) (i what : Int32) : Zc S (d + 2) jX5_row [.ref 0, .int i, .int what] (zWof n ξ ρ) (fun r w => r = some (.int (if 0 ≤ i ∧ i < ξ 0 6 ∧ 0 ≤ what ∧ what < 3 then ξ 36 (i * 3 + what).toNatClampNeg else -9)) ∧ w = zWof n ξ ρ) := by
  refine Zc_in (q := (5, 0, 1, 2, 3, 0, 0, zk_X5_row)) rfl (Nat.le_of_ble_eq_true rfl) (L := [_, _, _]) rfl ?_
  refine zr_aload_n 1 rfl rfl rfl trivial ?_
  refine zr_iload_n 2 rfl rfl rfl ?_
  refine zr_iload_n 3 rfl rfl rfl ?_
  refine zr_callv 6 (As := [_, _]) (u2 := (0, 0)) rfl rfl rfl rfl rfl rfl rfl (Nat.le_of_ble_eq_true rfl) (Nat.le_of_ble_eq_true rfl) (Nat.le_of_ble_eq_true rfl) rfl (c_isRowPart _ _) rfl (fun v2 w2 h3z => ?_)
  obtain ⟨rfl, rfl⟩ := h3z
  refine zr_if_eq 22 9 rfl rfl (by decide) (fun c6z => ?_) (fun c6z => ?_)
  · replace c6z := zb_0.mp c6z
    refine zr_bipush 24 (x := (-9)) rfl rfl (by decide) ?_
    refine zr_iret rfl rfl ?_
    refine ⟨?_, rfl⟩
    first | (simp [zb, *]; done) | grind [zb]
  · replace c6z := zb_n0.mp c6z
    refine zr_aload_n 10 rfl rfl rfl trivial ?_
    refine zr_getf 13 rfl rfl rfl rfl rfl ?_
    refine zr_iload_n 14 rfl rfl rfl ?_
    refine zr_iconst 15 (x := 3) rfl rfl (by decide) ?_
    refine zr_imul 16 rfl rfl ?_
    refine zr_iload_n 17 rfl rfl rfl ?_
    refine zr_iadd 18 rfl rfl ?_
    refine zr_iald 19 rfl rfl rfl rfl (zrix hR h20 c6z) ?_
    refine zr_goto 24 rfl (by decide) ?_
    refine zr_iret rfl rfl ?_
    refine ⟨?_, rfl⟩
    first | (simp [zb, *]; done) | grind [zb]
set_option maxRecDepth 20000 in
set_option maxHeartbeats 1000000 in
theorem c_alterRow {S : Nat × (Nat → Int32)} {d n : Nat} {ξ : Nat → Nat → Int32} {ρ : zRho} {R : Nat} (hR : ξ 0 6 = nI R) (h20 : R ≤ 20) (i what v : Int32) : Zc S (d + 2) jX5_alterRow [.ref 0, .int i, .int what, .int v] (zWof n ξ ρ) (fun r w => (¬ (0 ≤ i ∧ i < ξ 0 6 ∧ 0 ≤ what ∧ what < 3) → r = some (.int (-9)) ∧ w = zWof n ξ ρ) ∧ (0 ≤ i ∧ i < ξ 0 6 ∧ 0 ≤ what ∧ what < 3 → r = some (.int (ξ 36 (i * 3 + what).toNatClampNeg)) ∧ w = zWof n (zu ξ 36 (i * 3 + what).toNatClampNeg v) ρ)) := by
  refine Zc_in (q := (5, 0, 1, 3, 5, 0, 0, zk_X5_alterRow)) rfl (Nat.le_of_ble_eq_true rfl) (L := [_, _, _, _, _]) rfl ?_
  refine zr_aload_n 1 rfl rfl rfl trivial ?_
  refine zr_iload_n 2 rfl rfl rfl ?_
  refine zr_iload_n 3 rfl rfl rfl ?_
  refine zr_callv 6 (As := [_, _]) (u2 := (0, 0)) rfl rfl rfl rfl rfl rfl rfl (Nat.le_of_ble_eq_true rfl) (Nat.le_of_ble_eq_true rfl) (Nat.le_of_ble_eq_true rfl) rfl (c_isRowPart _ _) rfl (fun v2 w2 h3z => ?_)
  obtain ⟨rfl, rfl⟩ := h3z
  refine zr_if_ne 12 9 rfl rfl (by decide) (fun c6z => ?_) (fun c6z => ?_)
  · replace c6z := zb_n0.mp c6z
    refine zr_aload_n 13 rfl rfl rfl trivial ?_
    refine zr_getf 16 rfl rfl rfl rfl rfl ?_
    refine zr_iload_n 17 rfl rfl rfl ?_
    refine zr_iconst 18 (x := 3) rfl rfl (by decide) ?_
    refine zr_imul 19 rfl rfl ?_
    refine zr_iload_n 20 rfl rfl rfl ?_
    refine zr_iadd 21 rfl rfl ?_
    refine zr_iald 22 rfl rfl rfl rfl (zrix hR h20 c6z) ?_
    refine zr_istore 24 (L2 := [_, _, _, _, _]) rfl rfl (Nat.le_of_ble_eq_true rfl) (by first | exact trivial | exact rfl) rfl ?_
    refine zr_aload_n 25 rfl rfl rfl trivial ?_
    refine zr_getf 28 rfl rfl rfl rfl rfl ?_
    refine zr_iload_n 29 rfl rfl rfl ?_
    refine zr_iconst 30 (x := 3) rfl rfl (by decide) ?_
    refine zr_imul 31 rfl rfl ?_
    refine zr_iload_n 32 rfl rfl rfl ?_
    refine zr_iadd 33 rfl rfl ?_
    refine zr_iload_n 34 rfl rfl rfl ?_
    refine zr_iast 35 rfl rfl rfl rfl (zrix hR h20 c6z) (zW_set rfl) ?_
    refine zr_iload 37 rfl rfl rfl ?_
    refine zr_iret rfl rfl ?_
    exact ⟨fun h => absurd c6z h, fun _ => ⟨rfl, rfl⟩⟩
  · replace c6z := zb_0.mp c6z
    refine zr_bipush 11 (x := (-9)) rfl rfl (by decide) ?_
    refine zr_iret rfl rfl ?_
    exact ⟨fun _ => ⟨rfl, rfl⟩, fun h => absurd h c6z⟩
set_option maxRecDepth 20000 in
set_option maxHeartbeats 1000000 in
theorem c_trace {S : Nat × (Nat → Int32)} {d n : Nat} {ξ : Nat → Nat → Int32} {ρ : zRho} {N : Nat} (hN : ξ 40 1 = nI N) (h30 : N ≤ 30) (i : Int32) : Zc S (d + 1) jX5_trace [.ref 0, .int i] (zWof n ξ ρ) (fun r w => r = some (.int (if 0 ≤ i ∧ i < ξ 40 1 then ξ 41 i.toNatClampNeg else -3)) ∧ w = zWof n ξ ρ) := by
  refine Zc_in (q := (5, 0, 1, 1, 2, 0, 0, zk_X5_trace)) rfl (Nat.le_of_ble_eq_true rfl) (L := [_, _]) rfl ?_
  refine zr_iload_n 1 rfl rfl rfl ?_
  refine zr_if_lt 27 4 rfl rfl (by decide) (fun c1z => ?_) (fun c1z => ?_)
  · refine zr_bipush 29 (x := (-3)) rfl rfl (by decide) ?_
    refine zr_iret rfl rfl ?_
    refine ⟨?_, rfl⟩
    congr 2
    grind
  · refine zr_iload_n 5 rfl rfl rfl ?_
    refine zr_aload_n 6 rfl rfl rfl trivial ?_
    refine zr_getf 9 rfl rfl rfl rfl rfl ?_
    refine zr_getf 12 rfl rfl rfl rfl rfl ?_
    refine zr_icmp_ge 27 15 rfl rfl (by decide) (fun c12z => ?_) (fun c12z => ?_)
    · refine zr_bipush 29 (x := (-3)) rfl rfl (by decide) ?_
      refine zr_iret rfl rfl ?_
      refine ⟨?_, rfl⟩
      congr 2
      grind
    · refine zr_aload_n 16 rfl rfl rfl trivial ?_
      refine zr_getf 19 rfl rfl rfl rfl rfl ?_
      refine zr_getf 22 rfl rfl rfl rfl rfl ?_
      refine zr_iload_n 23 rfl rfl rfl ?_
      refine zr_iald 24 rfl rfl rfl rfl (zpin (M := N) ⟨Int32.not_lt.mp c1z, by rw [← hN]; exact Int32.not_le.mp c12z⟩ (by omega) h30) ?_
      refine zr_goto 29 rfl (by decide) ?_
      refine zr_iret rfl rfl ?_
      refine ⟨?_, rfl⟩
      congr 2
      grind
set_option maxRecDepth 20000 in
set_option maxHeartbeats 1000000 in
theorem c_many {S : Nat × (Nat → Int32)} {d n : Nat} {ξ : Nat → Nat → Int32} {ρ : zRho} {M : Nat} (hM : ξ 1 5 = nI M) (h6 : M ≤ 6) (what : Int32) : Zc S (d + 3) jX5_many [.ref 0, .int what] (zWof n ξ ρ) (fun r w => r = some (.int (if what = 0 then ξ 1 5 else if what = 1 then ξ 1 4 else if what = 2 then zcntF (fun i => ¬ ξ (1 + 5 + i) 5 = -9) M else if what = 3 then ξ 0 6 else if what = 4 then ξ 34 1 else if what = 5 then ξ 40 1 else -1)) ∧ w = zWof n ξ ρ) := by
  refine Zc_in (q := (5, 0, 1, 1, 2, 0, 0, zk_X5_many)) rfl (Nat.le_of_ble_eq_true rfl) (L := [_, _]) rfl ?_
  refine zr_iload_n 1 rfl rfl rfl ?_
  by_cases s1_0 : what = 0
  · refine zr_tsw_in 40 0 rfl (by rw [s1_0]; decide) (by decide) rfl (by decide) ?_
    refine zr_aload_n 41 rfl rfl rfl trivial ?_
    refine zr_getf 44 rfl rfl rfl rfl rfl ?_
    refine zr_getf 47 rfl rfl rfl rfl rfl ?_
    refine zr_iret rfl rfl ?_
    refine ⟨?_, rfl⟩
    simp_all
  by_cases s1_1 : what = 1
  · refine zr_tsw_in 48 1 rfl (by rw [s1_1]; decide) (by decide) rfl (by decide) ?_
    refine zr_aload_n 49 rfl rfl rfl trivial ?_
    refine zr_getf 52 rfl rfl rfl rfl rfl ?_
    refine zr_getf 55 rfl rfl rfl rfl rfl ?_
    refine zr_iret rfl rfl ?_
    refine ⟨?_, rfl⟩
    simp_all
  by_cases s1_2 : what = 2
  · refine zr_tsw_in 56 2 rfl (by rw [s1_2]; decide) (by decide) rfl (by decide) ?_
    refine zr_aload_n 57 rfl rfl rfl trivial ?_
    refine zr_getf 60 rfl rfl rfl rfl rfl ?_
    refine zr_callv 63 (As := []) (u2 := (0, 0)) rfl rfl rfl rfl rfl rfl rfl (Nat.le_of_ble_eq_true rfl) (Nat.le_of_ble_eq_true rfl) (Nat.le_of_ble_eq_true rfl) rfl (c_handedCount zc1 hM h6) rfl (fun v2 w2 h60z => ?_)
    obtain ⟨rfl, rfl⟩ := h60z
    refine zr_iret rfl rfl ?_
    refine ⟨?_, rfl⟩
    simp_all
  by_cases s1_3 : what = 3
  · refine zr_tsw_in 64 3 rfl (by rw [s1_3]; decide) (by decide) rfl (by decide) ?_
    refine zr_aload_n 65 rfl rfl rfl trivial ?_
    refine zr_getf 68 rfl rfl rfl rfl rfl ?_
    refine zr_iret rfl rfl ?_
    refine ⟨?_, rfl⟩
    simp_all
  by_cases s1_4 : what = 4
  · refine zr_tsw_in 69 4 rfl (by rw [s1_4]; decide) (by decide) rfl (by decide) ?_
    refine zr_aload_n 70 rfl rfl rfl trivial ?_
    refine zr_getf 73 rfl rfl rfl rfl rfl ?_
    refine zr_getf 76 rfl rfl rfl rfl rfl ?_
    refine zr_iret rfl rfl ?_
    refine ⟨?_, rfl⟩
    simp_all
  by_cases s1_5 : what = 5
  · refine zr_tsw_in 77 5 rfl (by rw [s1_5]; decide) (by decide) rfl (by decide) ?_
    refine zr_aload_n 78 rfl rfl rfl trivial ?_
    refine zr_getf 81 rfl rfl rfl rfl rfl ?_
    refine zr_getf 84 rfl rfl rfl rfl rfl ?_
    refine zr_iret rfl rfl ?_
    refine ⟨?_, rfl⟩
    simp_all
  refine zr_tsw_out 85 rfl (by have q0 := zne_i s1_0; have q1 := zne_i s1_1; have q2 := zne_i s1_2; have q3 := zne_i s1_3; have q4 := zne_i s1_4; have q5 := zne_i s1_5; rw [show (0 : Int32).toInt = 0 by decide] at q0; rw [show (1 : Int32).toInt = 1 by decide] at q1; rw [show (2 : Int32).toInt = 2 by decide] at q2; rw [show (3 : Int32).toInt = 3 by decide] at q3; rw [show (4 : Int32).toInt = 4 by decide] at q4; rw [show (5 : Int32).toInt = 5 by decide] at q5; omega) (by decide) ?_
  refine zr_iconst 86 (x := (-1)) rfl rfl (by decide) ?_
  refine zr_iret rfl rfl ?_
  refine ⟨?_, rfl⟩
  simp_all
