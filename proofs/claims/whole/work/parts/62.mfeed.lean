def zbyu (e : Int64) (i : Nat) : Int32 := ((e >>> ((8 * nI i).toInt64 &&& 63)) &&& 255).toInt32
theorem zamt_s : ∀ k, k < 8 → (((8 * nI k).toInt64 &&& 63).toBitVec.smod 64).toNat = 8 * k := by decide +kernel
theorem zamt_u : ∀ k, k < 8 → (((8 * nI k).toInt64.toUInt64 &&& Int64.toUInt64 63).toBitVec % 64).toNat = 8 * k := by decide +kernel
abbrev zB8 (e : Int64) (k : Nat) : BitVec 8 := (e.toBitVec >>> (8 * k)).setWidth 8
theorem zbyt_bv (e : Int64) {k : Nat} (hk : k < 8) : (zbyt e k).toBitVec = (zB8 e k).signExtend 32 := by
  have h : (zbyt e k).toBitVec = (((e.toBitVec >>> ((((8 * nI k).toInt64.toUInt64 &&& Int64.toUInt64 63).toBitVec % 64).toNat)).signExtend 32).signExtend 8).signExtend 32 := rfl
  rw [h, zamt_u k hk]
  congr 1
  refine BitVec.eq_of_getLsbD_eq (fun i hi => ?_)
  rw [BitVec.getLsbD_signExtend, BitVec.getLsbD_signExtend, BitVec.getLsbD_setWidth]
  simp [hi, show i < 32 by omega, show i < 64 by omega]
theorem zbyu_bv (e : Int64) {k : Nat} (hk : k < 8) : (zbyu e k).toBitVec = (zB8 e k).setWidth 32 := by
  have h : (zbyu e k).toBitVec = ((e.toBitVec.sshiftRight ((((8 * nI k).toInt64 &&& 63).toBitVec.smod 64).toNat)) &&& 255#64).signExtend 32 := rfl
  rw [h, zamt_s k hk]
  refine BitVec.eq_of_getLsbD_eq (fun i hi => ?_)
  rw [BitVec.getLsbD_signExtend, BitVec.getLsbD_setWidth, BitVec.getLsbD_setWidth, BitVec.getLsbD_and, BitVec.getLsbD_sshiftRight, BitVec.getLsbD_ushiftRight]
  have h255 : (255#64).getLsbD i = decide (i < 8) := by
    rw [show (255#64 : BitVec 64) = BitVec.ofNat 64 (2 ^ 8 - 1) from rfl, BitVec.getLsbD_ofNat, Nat.testBit_two_pow_sub_one]
    simp
    omega
  rw [h255]
  by_cases q : i < 8
  · simp [q, hi, show i < 64 by omega, show 8 * k + i < 64 by omega, show ¬ 64 ≤ i by omega]
  · simp [q, hi, show i < 64 by omega, show ¬ 64 ≤ i by omega]
theorem zby_rel (e : Int64) {k : Nat} (hk : k < 8) : 0 ≤ (zbyu e k).toInt ∧ (zbyt e k = zbyu e k ∨ ((zbyt e k).toInt < 0 ∧ 128 ≤ (zbyu e k).toInt)) := by
  have hb := zbyt_bv e hk
  have hu := zbyu_bv e hk
  generalize zB8 e k = B at hb hu
  have hlt := B.isLt
  have nu : (zbyu e k).toInt = (B.toNat : Int) := by
    show (zbyu e k).toBitVec.toInt = _
    rw [hu, BitVec.toInt_eq_toNat_of_lt]
    · rw [BitVec.toNat_setWidth_of_le (by decide)]
    · rw [BitVec.toNat_setWidth_of_le (by decide)]
      omega
  refine ⟨by rw [nu]; omega, ?_⟩
  by_cases q : B.msb = true
  · right
    have a := q
    have b := q
    rw [BitVec.msb_eq_decide] at a
    rw [BitVec.msb_eq_toInt] at b
    have a2 := of_decide_eq_true a
    have b2 := of_decide_eq_true b
    constructor
    · show (zbyt e k).toBitVec.toInt < 0
      rw [hb, BitVec.toInt_signExtend_of_le (by decide)]
      exact b2
    · rw [nu]
      have : (2 : Nat) ^ (8 - 1) = 128 := by decide
      omega
  · left
    refine Int32.toBitVec_inj.mp ?_
    rw [hb, hu]
    exact BitVec.signExtend_eq_setWidth_of_msb_false (by simpa using q)
theorem zBy.feed {tb tu tu2 : Nat → Int32} {L m : Nat} (h : zBy tb tu L) (hm : m ≤ 8) (e : Int64) (h1 : ∀ k, k < m → tu2 (L + k) = zbyu e k) (h2 : ∀ k, k < L → tu2 k = tu k) : zBy (zfdT tb L m e) tu2 (L + m) := fun k hk => by
  unfold zfdT
  by_cases q : k < L
  · rw [if_neg (by omega), h2 k q]
    exact h k q
  · rw [if_pos (by omega)]
    have z := h1 (k - L) (by omega)
    rw [show L + (k - L) = k by omega] at z
    rw [z]
    exact zby_rel e (by omega)
set_option maxRecDepth 20000 in
set_option maxHeartbeats 1000000 in
theorem c_Mfeed {S : Nat × (Nat → Int32)} {d n : Nat} {ξ : Nat → Nat → Int32} {ρ : zRho} {L : Nat} (h13 : ξ 42 13 = nI L) (hL : L ≤ 200) (e : Int64) (v : Int32) : Zc S (d + 2) jX6_feed [.ref 42, .long e, .int v] (zWof n ξ ρ) (fun r w => (¬ (1 ≤ v ∧ v ≤ 8) → r = some (.int (-1)) ∧ w = zWof n ξ ρ) ∧ ∀ m, v = nI m → 1 ≤ m → m ≤ 8 → (200 < L + m → r = some (.int (-2)) ∧ w = zWof n ξ ρ) ∧ (L + m ≤ 200 → ∃ ξ2, w = zWof n ξ2 ρ ∧ r = some (.int (nI (L + m))) ∧ ξ2 42 13 = nI (L + m) ∧ (∀ k, k < m → ξ2 51 (L + k) = zbyu e k) ∧ (∀ k, k < L → ξ2 51 k = ξ 51 k) ∧ (∀ k, k ≠ 13 → ξ2 42 k = ξ 42 k) ∧ ∀ b, b ≠ 42 → b ≠ 51 → ξ2 b = ξ b)) := by
  refine Zc_in (q := (6, 0, 1, 2, 5, 0, 0, zk_X6_feed)) rfl (Nat.le_of_ble_eq_true rfl) (L := [_, _, _, _, _]) rfl ?_
  refine zr_iload_n 1 rfl rfl rfl ?_
  refine zr_iconst 2 (x := 1) rfl rfl (by decide) ?_
  refine zr_bipush 4 (x := 8) rfl rfl (by decide) ?_
  refine zr_calls 7 (As := [_, _, _]) (u2 := (0, 0)) rfl rfl rfl rfl rfl rfl rfl (Nat.le_of_ble_eq_true rfl) (Nat.le_of_ble_eq_true rfl) (Nat.le_of_ble_eq_true rfl) (c_Min _ _ _) rfl (fun v2 w2 h4z => ?_)
  obtain ⟨rfl, rfl⟩ := h4z
  refine zr_if_ne 12 10 rfl rfl (by decide) (fun c7z => ?_) (fun c7z => ?_)
  · replace c7z := zb_n0.mp c7z
    obtain ⟨m0, hm0, rfl⟩ := zbetI (k := 8) rfl (by decide) (Int32.le_trans (by decide) c7z.1) c7z.2
    refine zr_aload_n 13 rfl rfl rfl trivial ?_
    refine zr_getf 16 rfl rfl rfl rfl rfl ?_
    refine zr_iload_n 17 rfl rfl rfl ?_
    refine zr_iadd 18 rfl rfl ?_
    refine zr_sipush 21 (x := 200) rfl rfl (by decide) ?_
    refine zr_icmp_le 27 24 rfl rfl (by decide) (fun c21z => ?_) (fun c21z => ?_)
    · rw [h13, nI_add, show (200 : Int32) = nI 200 from rfl, nI_leI (by omega) (by decide)] at c21z
      have key : ∀ (k : Nat) (j : Nat) (ξ1 : Nat → Nat → Int32), m0 - j = k → j ≤ m0 → ξ1 42 13 = nI (L + j) → (∀ k, k < j → ξ1 51 (L + k) = zbyu e k) → (∀ k, k < L → ξ1 51 k = ξ 51 k) → (∀ k, k ≠ 13 → ξ1 42 k = ξ 42 k) → (∀ b, b ≠ 42 → b ≠ 51 → ξ1 b = ξ b) →  Zw S (Zc S (d + 1)) 6 false 1 zk_X6_feed (fun r w => (¬ (1 ≤ nI m0 ∧ nI m0 ≤ 8) → r = some (.int (-1)) ∧ w = zWof n ξ ρ) ∧ ∀ m, nI m0 = nI m → 1 ≤ m → m ≤ 8 → (200 < L + m → r = some (.int (-2)) ∧ w = zWof n ξ ρ) ∧ (L + m ≤ 200 → ∃ ξ2, w = zWof n ξ2 ρ ∧ r = some (.int (nI (L + m))) ∧ ξ2 42 13 = nI (L + m) ∧ (∀ k, k < m → ξ2 51 (L + k) = zbyu e k) ∧ (∀ k, k < L → ξ2 51 k = ξ 51 k) ∧ (∀ k, k ≠ 13 → ξ2 42 k = ξ 42 k) ∧ ∀ b, b ≠ 42 → b ≠ 51 → ξ2 b = ξ b)) (30, [some (.ref 42), some (.long e), none, some (.int (nI m0)), some (.int (nI j))], [], (0, 0), zWof n ξ1 ρ) := by
        intro k
        induction k using Nat.strongRecOn with
        | ind k ih =>
          intro j ξ1 hk hj e13 eb eo fk fb
          refine zr_iload 32 rfl rfl rfl ?_
          refine zr_iload_n 33 rfl rfl rfl ?_
          refine zr_icmp_ge 73 36 rfl rfl (by decide) (fun c33z => ?_) (fun c33z => ?_)
          · rw [nI_leI (by omega) (by omega)] at c33z
            refine zr_aload_n 74 rfl rfl rfl trivial ?_
            refine zr_getf 77 rfl rfl rfl rfl rfl ?_
            refine zr_iret rfl rfl ?_
            refine ⟨fun q => absurd c7z q, fun m q1 q2 q3 => ?_⟩
            obtain rfl := (nI_eq (by omega) (by omega)).mp q1
            exact ⟨fun z => absurd z (by omega), fun _ => ⟨ξ1, rfl, by rw [e13, show j = m0 by omega], by rw [e13, show j = m0 by omega], fun k hk => eb k (by omega), eo, fk, fb⟩⟩
          · rw [nI_leI (by omega) (by omega)] at c33z
            refine zr_aload_n 37 rfl rfl rfl trivial ?_
            refine zr_getf 40 rfl rfl rfl rfl rfl ?_
            refine zr_aload_n 41 rfl rfl rfl trivial ?_
            refine zr_getf 44 rfl rfl rfl rfl rfl ?_
            rw [e13]
            refine zr_lload_n 45 rfl rfl rfl ?_
            refine zr_bipush 47 (x := 8) rfl rfl (by decide) ?_
            refine zr_iload 49 rfl rfl rfl ?_
            refine zr_imul 50 rfl rfl ?_
            refine zr_lshr 51 rfl rfl ?_
            refine zr_ldc2_w 54 rfl rfl rfl ?_
            refine zr_land 55 rfl rfl ?_
            refine zr_l2i 56 rfl rfl ?_
            refine zr_iast 57 rfl rfl rfl (nI_clamp (by omega)) (vp_in_nI (by omega) (by omega)) (zW_set (k := L + j) (v := zbyu e j) rfl) ?_
            refine zr_aload_n 58 rfl rfl rfl trivial ?_
            refine zr_dup 59 rfl rfl rfl ?_
            refine zr_getf 62 rfl rfl rfl rfl rfl ?_
            refine zr_iconst 63 (x := 1) rfl rfl (by decide) ?_
            refine zr_iadd 64 rfl rfl ?_
            refine zr_putf 67 rfl rfl rfl rfl (Nat.le_of_ble_eq_true rfl) rfl trivial (fun h => by cases h) (zW_set (k := 13) rfl) ?_
            refine zr_iinc 70 (c0 := 1) (L2 := [_, _, _, _, _]) rfl rfl rfl (by first | exact trivial | exact rfl) (by decide) rfl ?_
            refine zr_goto 30 rfl (by decide) ?_
            rw [nI_1]
            refine ih _ (by omega) (j + 1) _ rfl (by omega) (by rw [zu_same, zun (by decide), e13, nI_1]; rfl) (fun k hk => ?_) (fun k hk => by rw [zun (by decide), zu_ne (Or.inr (by omega))]; exact eo k hk) (fun k hk => by rw [zu_ne (Or.inr hk), zun (by decide)]; exact fk k hk) (fun b b1 b2 => by rw [zun b1, zun b2]; exact fb b b1 b2)
            rw [zun (by decide)]
            by_cases z : k = j
            · subst z
              rw [zu_same]
            · rw [zu_ne (Or.inr (by omega))]
              exact eb k (by omega)
      refine zr_iconst 28 (x := 0) rfl rfl (by decide) ?_
      refine zr_istore 30 (L2 := [_, _, _, _, _]) rfl rfl (Nat.le_of_ble_eq_true rfl) (by first | exact trivial | exact rfl) rfl ?_
      exact key _ 0 ξ rfl (Nat.zero_le _) h13 (fun k hk => absurd hk (Nat.not_lt_zero _)) (fun _ _ => rfl) (fun _ _ => rfl) (fun _ _ _ => rfl)
    · rw [h13, nI_add, show (200 : Int32) = nI 200 from rfl, nI_leI (by omega) (by decide)] at c21z
      refine zr_bipush 26 (x := (-2)) rfl rfl (by decide) ?_
      refine zr_iret rfl rfl ?_
      refine ⟨fun q => absurd c7z q, fun m q1 q2 q3 => ?_⟩
      obtain rfl := (nI_eq (by omega) (by omega)).mp q1
      exact ⟨fun _ => ⟨rfl, rfl⟩, fun z => absurd z (by omega)⟩
  · replace c7z := zb_0.mp c7z
    refine zr_iconst 11 (x := (-1)) rfl rfl (by decide) ?_
    refine zr_iret rfl rfl ?_
    refine ⟨fun _ => ⟨rfl, rfl⟩, fun m q1 q2 q3 => ?_⟩
    subst q1
    exact absurd ⟨(nI_leI (a := 1) (by decide) (by omega)).mpr q2, (nI_leI (b := 8) (by omega) (by decide)).mpr q3⟩ c7z
