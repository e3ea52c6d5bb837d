def zpop : Nat → Nat → Nat
  | 0, _ => 0
  | k + 1, n => n % 2 + zpop k (n / 2)
theorem zpop_and : ∀ k N, 0 < N → N < 2 ^ k → zpop k N = zpop k (N &&& (N - 1)) + 1
  | 0, N, h0, h1 => by
    rw [Nat.pow_zero] at h1
    omega
  | k + 1, N, h0, h1 => by
    rw [Nat.pow_succ] at h1
    rw [zpop, zpop, Nat.and_div_two]
    have hm : (N &&& (N - 1)) % 2 = 0 := by
      rcases Nat.mod_two_eq_zero_or_one (N &&& (N - 1)) with q | q
      · exact q
      · have z := Nat.and_mod_two_eq_one.mp q
        omega
    rw [hm]
    rcases Nat.mod_two_eq_zero_or_one N with q | q
    · have e : (N - 1) / 2 = N / 2 - 1 := by omega
      rw [e, q, zpop_and k (N / 2) (by omega) (by omega)]
      omega
    · have e : (N - 1) / 2 = N / 2 := by omega
      rw [e, q, Nat.and_self]
      omega
theorem z8and {a c : Nat} (m M : Nat) (ha : a < 256) (hc : c < 256) : (256 * m + a) &&& (256 * M + c) = 256 * (m &&& M) + (a &&& c) := by
  have h2 : (256 : Nat) = 2 ^ 8 := by decide
  rw [h2] at ha hc ⊢
  refine Nat.eq_of_testBit_eq (fun j => ?_)
  rw [Nat.testBit_and, Nat.testBit_two_pow_mul_add _ ha, Nat.testBit_two_pow_mul_add _ hc, Nat.testBit_two_pow_mul_add _ (Nat.and_lt_two_pow a hc)]
  by_cases q : j < 8
  · rw [if_pos q, if_pos q, if_pos q, Nat.testBit_and]
  · rw [if_neg q, if_neg q, if_neg q, Nat.testBit_and]
abbrev zB4 (a b c d : Nat) : Nat := 256 * (256 * (256 * d + c) + b) + a
theorem z4and {a b c d u : Nat} (ha : a < 256) (hb : b < 256) (hc : c < 256) (hu : u < 256) : zB4 a b c d &&& zB4 u u u u = zB4 (a &&& u) (b &&& u) (c &&& u) (d &&& u) := by
  unfold zB4
  rw [z8and _ _ ha hu, z8and _ _ hb hu, z8and _ _ hc hu]
theorem zd85 : ∀ x, x < 256 → ∀ t, t < 2 → (x / 2 + 128 * t) &&& 85 = x / 2 &&& 85 := by decide +kernel
theorem zd51 : ∀ x, x < 256 → ∀ t, t < 4 → (x / 4 + 64 * t) &&& 51 = x / 4 &&& 51 := by decide +kernel
abbrev zx1 (a : Nat) : Nat := a - (a / 2 &&& 85)
abbrev zx2 (x : Nat) : Nat := (x &&& 51) + (x / 4 &&& 51)
theorem zdb : ∀ a, a < 256 → (a / 2 &&& 85) ≤ a ∧ zx1 a < 256 ∧ zx2 (zx1 a) < 256 ∧ zx2 (zx1 a) % 16 ≤ 4 ∧ zx2 (zx1 a) / 16 ≤ 4 ∧ zx2 (zx1 a) % 16 + zx2 (zx1 a) / 16 = zpop 8 a := by decide +kernel
theorem zs1 {a b c d : Nat} (ha : a < 256) (hb : b < 256) (hc : c < 256) (hd : d < 256) : zB4 a b c d - (zB4 a b c d / 2 &&& 1431655765) = zB4 (zx1 a) (zx1 b) (zx1 c) (zx1 d) ∧ (zB4 a b c d / 2 &&& 1431655765) ≤ zB4 a b c d := by
  have e : zB4 a b c d / 2 = zB4 (a / 2 + 128 * (b % 2)) (b / 2 + 128 * (c % 2)) (c / 2 + 128 * (d % 2)) (d / 2 + 128 * 0) := by
    unfold zB4
    omega
  rw [e, show (1431655765 : Nat) = zB4 85 85 85 85 from rfl, z4and (by omega) (by omega) (by omega) (by decide), zd85 a ha _ (by omega), zd85 b hb _ (by omega), zd85 c hc _ (by omega), zd85 d hd _ (by omega)]
  have pa := (zdb a ha).1
  have pb := (zdb b hb).1
  have pc := (zdb c hc).1
  have pd := (zdb d hd).1
  unfold zB4 zx1
  generalize (a / 2 &&& 85) = ua at *
  generalize (b / 2 &&& 85) = ub at *
  generalize (c / 2 &&& 85) = uc at *
  generalize (d / 2 &&& 85) = ud at *
  omega
theorem zs2 {a b c d : Nat} (ha : a < 256) (hb : b < 256) (hc : c < 256) (hd : d < 256) : (zB4 a b c d &&& 858993459) + (zB4 a b c d / 4 &&& 858993459) = zB4 (zx2 a) (zx2 b) (zx2 c) (zx2 d) := by
  have e : zB4 a b c d / 4 = zB4 (a / 4 + 64 * (b % 4)) (b / 4 + 64 * (c % 4)) (c / 4 + 64 * (d % 4)) (d / 4 + 64 * 0) := by
    unfold zB4
    omega
  rw [e, show (858993459 : Nat) = zB4 51 51 51 51 from rfl, z4and ha hb hc (by decide), z4and (by omega) (by omega) (by omega) (by decide), zd51 a ha _ (by omega), zd51 b hb _ (by omega), zd51 c hc _ (by omega), zd51 d hd _ (by omega)]
  unfold zB4 zx2
  omega
theorem zs3 {a b c d : Nat} (ha : a < 256 ∧ a % 16 ≤ 4 ∧ a / 16 ≤ 4) (hb : b < 256 ∧ b % 16 ≤ 4 ∧ b / 16 ≤ 4) (hc : c < 256 ∧ c % 16 ≤ 4 ∧ c / 16 ≤ 4) (hd : d < 256 ∧ d % 16 ≤ 4 ∧ d / 16 ≤ 4) : (zB4 a b c d + zB4 a b c d / 16) &&& 252645135 = zB4 (a % 16 + a / 16) (b % 16 + b / 16) (c % 16 + c / 16) (d % 16 + d / 16) := by
  have e : zB4 a b c d + zB4 a b c d / 16 = zB4 (a + a / 16 + 16 * (b % 16)) (b + b / 16 + 16 * (c % 16)) (c + c / 16 + 16 * (d % 16)) (d + d / 16 + 16 * 0) := by
    unfold zB4
    omega
  have m : ∀ x t, x % 16 ≤ 4 → x / 16 ≤ 4 → (x + x / 16 + 16 * t) &&& 15 = x % 16 + x / 16 := fun x t h1 h2 => by
    rw [show (15 : Nat) = 2 ^ 4 - 1 from rfl, Nat.and_two_pow_sub_one_eq_mod, show (2 : Nat) ^ 4 = 16 from rfl]
    omega
  rw [e, show (252645135 : Nat) = zB4 15 15 15 15 from rfl, z4and (by omega) (by omega) (by omega) (by decide), m a _ ha.2.1 ha.2.2, m b _ hb.2.1 hb.2.2, m c _ hc.2.1 hc.2.2, m d _ hd.2.1 hd.2.2]
theorem zs5 {a b c d : Nat} (ha : a ≤ 8) (hb : b ≤ 8) (hc : c ≤ 8) (hd : d ≤ 8) : (zB4 a b c d + zB4 a b c d / 256 + (zB4 a b c d + zB4 a b c d / 256) / 65536) &&& 63 = a + b + c + d := by
  rw [show (63 : Nat) = 2 ^ 6 - 1 from rfl, Nat.and_two_pow_sub_one_eq_mod, show (2 : Nat) ^ 6 = 64 from rfl]
  have e1 : zB4 a b c d / 256 = 65536 * d + 256 * c + b := by
    unfold zB4
    omega
  have e0 : zB4 a b c d = 16777216 * d + 65536 * c + 256 * b + a := by
    unfold zB4
    omega
  have e2 : (16777216 * d + 65536 * c + 256 * b + a + (65536 * d + 256 * c + b)) / 65536 = 256 * d + (c + d) := by omega
  rw [e1, e0, e2]
  omega
theorem zB4_lt {a b c d : Nat} (ha : a < 256) (hb : b < 256) (hc : c < 256) (hd : d < 256) : zB4 a b c d < 2 ^ 32 := by
  unfold zB4
  omega
theorem zB4_lt2 {a b c d : Nat} (ha : a ≤ 8) (hb : b ≤ 8) (hc : c ≤ 8) (hd : d ≤ 8) : zB4 a b c d + zB4 a b c d / 2 ^ 8 < 2 ^ 32 := by
  unfold zB4
  omega
theorem zpop_8 {a : Nat} (m k : Nat) (ha : a < 256) : zpop (k + 8) (256 * m + a) = zpop 8 a + zpop k m := by
  simp only [zpop]
  rw [show (256 * m + a) / 2 / 2 / 2 / 2 / 2 / 2 / 2 / 2 = m by omega]
  omega
theorem zpop_4 {a b c d : Nat} (ha : a < 256) (hb : b < 256) (hc : c < 256) (hd : d < 256) : zpop 32 (zB4 a b c d) = zpop 8 a + zpop 8 b + zpop 8 c + zpop 8 d := by
  unfold zB4
  rw [show (32 : Nat) = 24 + 8 from rfl, zpop_8 _ 24 ha, show (24 : Nat) = 16 + 8 from rfl, zpop_8 _ 16 hb, show (16 : Nat) = 8 + 8 from rfl, zpop_8 _ 8 hc]
  omega
theorem zpop8_le (a : Nat) : zpop 8 a ≤ 8 := by
  simp only [zpop]
  omega
theorem zan (a b : Nat) : nI a &&& nI b = nI (a &&& b) := by
  refine Int32.toBitVec_inj.mp (BitVec.eq_of_toNat_eq ?_)
  show (BitVec.ofNat 32 a &&& BitVec.ofNat 32 b).toNat = (BitVec.ofNat 32 (a &&& b)).toNat
  rw [BitVec.toNat_and, BitVec.toNat_ofNat, BitVec.toNat_ofNat, BitVec.toNat_ofNat, Nat.and_mod_two_pow]
theorem zbits_N {N : Nat} (h : N < 2 ^ 30) : zbits (nI N) = nI (zpop 32 N) := by
  obtain ⟨a, b, c, d, ha, hb, hc, hd, rfl⟩ : ∃ a b c d, a < 256 ∧ b < 256 ∧ c < 256 ∧ d < 256 ∧ N = zB4 a b c d := ⟨N % 256, N / 256 % 256, N / 65536 % 256, N / 16777216, by omega, by omega, by omega, by omega, by unfold zB4; omega⟩
  obtain ⟨a1, a2, a3, a4, a5, a6⟩ := zdb a ha
  obtain ⟨b1, b2, b3, b4, b5, b6⟩ := zdb b hb
  obtain ⟨c1, c2, c3, c4, c5, c6⟩ := zdb c hc
  obtain ⟨d1, d2, d3, d4, d5, d6⟩ := zdb d hd
  have e1 : zbc1 (nI (zB4 a b c d)) = nI (zB4 (zx1 a) (zx1 b) (zx1 c) (zx1 d)) := by
    unfold zbc1
    rw [pk_ushrN (by omega) 1 1 (by decide), show (1431655765 : Int32) = nI 1431655765 from rfl, zan, Nat.pow_one, znsub (zs1 ha hb hc hd).2, (zs1 ha hb hc hd).1]
  have e2 : zbc2 (nI (zB4 (zx1 a) (zx1 b) (zx1 c) (zx1 d))) = nI (zB4 (zx2 (zx1 a)) (zx2 (zx1 b)) (zx2 (zx1 c)) (zx2 (zx1 d))) := by
    unfold zbc2
    rw [pk_ushrN (zB4_lt a2 b2 c2 d2) 2 2 (by decide), show (858993459 : Int32) = nI 858993459 from rfl, zan, zan, nI_add, show (2 : Nat) ^ 2 = 4 from rfl, zs2 a2 b2 c2 d2]
  have e3 : zbc3 (nI (zB4 (zx2 (zx1 a)) (zx2 (zx1 b)) (zx2 (zx1 c)) (zx2 (zx1 d)))) = nI (zB4 (zpop 8 a) (zpop 8 b) (zpop 8 c) (zpop 8 d)) := by
    unfold zbc3
    rw [pk_ushrN (zB4_lt a3 b3 c3 d3) 4 4 (by decide), show (252645135 : Int32) = nI 252645135 from rfl, nI_add, zan, show (2 : Nat) ^ 4 = 16 from rfl, zs3 ⟨a3, a4, a5⟩ ⟨b3, b4, b5⟩ ⟨c3, c4, c5⟩ ⟨d3, d4, d5⟩, a6, b6, c6, d6]
  have pa := zpop8_le a
  have pb := zpop8_le b
  have pc := zpop8_le c
  have pd := zpop8_le d
  unfold zbits
  rw [e1, e2, e3, zpop_4 ha hb hc hd]
  generalize zpop 8 a = qa at *
  generalize zpop 8 b = qb at *
  generalize zpop 8 c = qc at *
  generalize zpop 8 d = qd at *
  unfold zbc4 zbc5
  rw [pk_ushrN (zB4_lt (by omega) (by omega) (by omega) (by omega)) 8 8 (by decide), nI_add, pk_ushrN (zB4_lt2 pa pb pc pd) 16 16 (by decide), nI_add, show (63 : Int32) = nI 63 from rfl, zan, show (2 : Nat) ^ 8 = 256 from rfl, show (2 : Nat) ^ 16 = 65536 from rfl, zs5 pa pb pc pd]
theorem zand_lt {N : Nat} (h : 0 < N) : N &&& (N - 1) < N := by
  have := Nat.and_le_right (n := N) (m := N - 1)
  omega
set_option maxRecDepth 20000 in
set_option maxHeartbeats 1000000 in
theorem c_Mones {S : Nat × (Nat → Int32)} {d n : Nat} {ξ : Nat → Nat → Int32} {ρ : zRho} {N : Nat} (hN : N < 2 ^ 30) : Zc S (d + 1) jX6_ones [.int (nI N)] (zWof n ξ ρ) (fun r w => r = some (.int (nI (zpop 32 N))) ∧ w = zWof n ξ ρ) := by
  refine Zc_in (q := (6, 2, 1, 1, 3, 0, 0, zk_X6_ones)) rfl (Nat.le_of_ble_eq_true rfl) (L := [_, _, _]) rfl ?_
  have key : ∀ (k : Nat) (j : Nat) (c : Nat), j = k → j < 2 ^ 30 → c + zpop 32 j = zpop 32 N →  Zw S (Zc S d) 6 false 1 zk_X6_ones (fun r w => r = some (.int (nI (zpop 32 N))) ∧ w = zWof n ξ ρ) (4, [some (.int (nI N)), some (.int (nI c)), some (.int (nI j))], [], (0, 0), zWof n ξ ρ) := by
    intro k
    induction k using Nat.strongRecOn with
    | ind k ih =>
      intro j c hk hj hc
      refine zr_iload_n 5 rfl rfl rfl ?_
      refine zr_if_eq 20 8 rfl rfl (by decide) (fun c5z => ?_) (fun c5z => ?_)
      · have hj0 : j = 0 := (nI_eq (b := 0) (by omega) (by decide)).mp c5z
        refine zr_iload_n 21 rfl rfl rfl ?_
        refine zr_iret rfl rfl ?_
        refine ⟨?_, rfl⟩
        rw [hj0, show zpop 32 0 = 0 from by decide, Nat.add_zero] at hc
        rw [hc]
      · have hj0 : 0 < j := Nat.pos_of_ne_zero (fun q => c5z (by rw [q]; rfl))
        obtain ⟨j2, rfl⟩ : ∃ z, j = z + 1 := ⟨j - 1, by omega⟩
        refine zr_iinc 11 (c0 := 1) (L2 := [_, _, _]) rfl rfl rfl (by first | exact trivial | exact rfl) (by decide) rfl ?_
        refine zr_iload_n 12 rfl rfl rfl ?_
        refine zr_iload_n 13 rfl rfl rfl ?_
        refine zr_iconst 14 (x := 1) rfl rfl (by decide) ?_
        refine zr_isub 15 rfl rfl ?_
        refine zr_iand 16 rfl rfl ?_
        rw [nI_pred, zan]
        refine zr_istore_n 17 (L2 := [_, _, _]) rfl rfl (Nat.le_of_ble_eq_true rfl) (by first | exact trivial | exact rfl) rfl ?_
        refine zr_goto 4 rfl (by decide) ?_
        rw [nI_1]
        have lt := zand_lt hj0
        have ep := zpop_and 32 (j2 + 1) hj0 (by omega)
        rw [Nat.add_sub_cancel] at lt ep
        exact ih _ (by omega) ((j2 + 1) &&& j2) (c + 1) rfl (by omega) (by omega)
  refine zr_iconst 1 (x := 0) rfl rfl (by decide) ?_
  refine zr_istore_n 2 (L2 := [_, _, _]) rfl rfl (Nat.le_of_ble_eq_true rfl) (by first | exact trivial | exact rfl) rfl ?_
  refine zr_iload_n 3 rfl rfl rfl ?_
  refine zr_istore_n 4 (L2 := [_, _, _]) rfl rfl (Nat.le_of_ble_eq_true rfl) (by first | exact trivial | exact rfl) rfl ?_
  exact key _ N 0 rfl hN (Nat.zero_add _)
set_option maxRecDepth 20000 in
set_option maxHeartbeats 1000000 in
theorem c_Mill {S : Nat × (Nat → Int32)} {d n : Nat} {ξ : Nat → Nat → Int32} {ρ : zRho} {K : zCs} (h : zMR ξ 0 K) (hK : zOK K) (x v : Int32) : Zc S (d + 3) jX6_ill [.ref 42, .int x, .int v] (zWof n ξ ρ) (fun r w => ∃ ξ2, w = zWof n ξ2 ρ ∧ r = some (.int (K.ill x v).2) ∧ zMR ξ2 0 (K.ill x v).1 ∧ zfm ξ ξ2) := by
  have hd3 := hK.d3
  have hm6 := hK.m6
  have ht60 := hK.t60
  refine Zc_in (q := (6, 0, 1, 2, 3, 0, 0, zk_X6_ill)) rfl (Nat.le_of_ble_eq_true rfl) (L := [_, _, _]) rfl ?_
  refine zr_aload_n 1 rfl rfl rfl trivial ?_
  refine zr_iload_n 2 rfl rfl rfl ?_
  refine zr_callv 5 (As := [_]) (u2 := (0, 0)) rfl rfl rfl rfl rfl rfl rfl (Nat.le_of_ble_eq_true rfl) (Nat.le_of_ble_eq_true rfl) (Nat.le_of_ble_eq_true rfl) rfl (c_MisPerson h hK _) rfl (fun v2 w2 h2z => ?_)
  obtain ⟨rfl, rfl⟩ := h2z
  refine zr_if_eq 19 8 rfl rfl (by decide) (fun c5z => ?_) (fun c5z => ?_)
  · replace c5z := zb_0.mp c5z
    refine zr_iconst 20 (x := (-1)) rfl rfl (by decide) ?_
    refine zr_iret rfl rfl ?_
    refine ⟨ξ, rfl, ?_⟩
    rw [show K.ill x v = _ from if_neg (fun q => c5z q.1)]
    exact ⟨rfl, h, zfm.rf _⟩
  · replace c5z := zb_n0.mp c5z
    refine zr_iload_n 9 rfl rfl rfl ?_
    refine zr_iconst 10 (x := 0) rfl rfl (by decide) ?_
    refine zr_ldc_w 13 rfl rfl rfl ?_
    refine zr_calls 16 (As := [_, _, _]) (u2 := (0, 0)) rfl rfl rfl rfl rfl rfl rfl (Nat.le_of_ble_eq_true rfl) (Nat.le_of_ble_eq_true rfl) (Nat.le_of_ble_eq_true rfl) (c_Min _ _ _) rfl (fun v2 w2 h13z => ?_)
    obtain ⟨rfl, rfl⟩ := h13z
    refine zr_if_ne 21 19 rfl rfl (by decide) (fun c16z => ?_) (fun c16z => ?_)
    · replace c16z := zb_n0.mp c16z
      obtain ⟨i, hi, rfl⟩ := zperI rfl (by omega) c5z
      obtain ⟨N, hN, rfl⟩ : ∃ N, N < 2 ^ 30 ∧ v = nI N := by
        have a := Int32.le_iff_toInt_le.mp c16z.1
        have b := Int32.le_iff_toInt_le.mp c16z.2
        rw [zI0] at a
        rw [show (1073741823 : Int32).toInt = 1073741823 by decide] at b
        exact ⟨v.toInt.toNat, by omega, Int32.toInt_inj.mp (by rw [nI_toInt (by omega)]; omega)⟩
      refine zr_aload_n 22 rfl rfl rfl trivial ?_
      refine zr_getf 25 rfl rfl rfl rfl rfl ?_
      refine zr_iload_n 26 rfl rfl rfl ?_
      refine zr_iload_n 27 rfl rfl rfl ?_
      refine zr_iast 28 rfl rfl rfl (nI_clamp (by omega)) (vp_in_nI (by omega) (by omega)) (zW_set rfl) ?_
      refine zr_iload_n 29 rfl rfl rfl ?_
      refine zr_calls 32 (As := [_]) (u2 := (0, 0)) rfl rfl rfl rfl rfl rfl rfl (Nat.le_of_ble_eq_true rfl) (Nat.le_of_ble_eq_true rfl) (Nat.le_of_ble_eq_true rfl) (c_Mones hN) rfl (fun v2 w2 h29z => ?_)
      obtain ⟨rfl, rfl⟩ := h29z
      refine zr_iret rfl rfl ?_
      refine ⟨_, rfl, ?_⟩
      rw [show K.ill (nI i) (nI N) = _ from if_pos ⟨c5z, c16z⟩, nI_clamp (by omega)]
      exact ⟨by rw [zbits_N hN], h.u49 _, (zfm.rf ξ).u 49 _ _ (by omega)⟩
    · replace c16z := zb_0.mp c16z
      refine zr_iconst 20 (x := (-1)) rfl rfl (by decide) ?_
      refine zr_iret rfl rfl ?_
      refine ⟨ξ, rfl, ?_⟩
      rw [show K.ill x v = _ from if_neg (fun q => c16z q.2)]
      exact ⟨rfl, h, zfm.rf _⟩
