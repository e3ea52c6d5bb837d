theorem zwide_i (y : Int32) : y.toInt64.toInt = y.toInt := Int32.toInt_toInt64 y
theorem zl0 : (0 : Int64).toInt = 0 := by decide
theorem zl9 : (9 : Int64).toInt = 9 := by decide
theorem zI9 : (9 : Int32).toInt = 9 := by decide
theorem zc9_lo {y : Int32} (h : ¬ (0 : Int64) ≤ y.toInt64) : zc9 y = 0 := by
  rw [Int64.le_iff_toInt_le, zwide_i, zl0] at h
  unfold zc9
  rw [if_pos (show y < 9 by rw [Int32.lt_iff_toInt_lt, zI9]; omega), if_neg (show ¬ 0 < y by rw [Int32.lt_iff_toInt_lt, zI0]; omega)]
theorem zc9_hi {y : Int32} (h : ¬ y.toInt64 ≤ (9 : Int64)) : zc9 y = 9 := by
  rw [Int64.le_iff_toInt_le, zwide_i, zl9] at h
  unfold zc9
  rw [if_neg (show ¬ y < 9 by rw [Int32.lt_iff_toInt_lt, zI9]; omega), if_pos (by decide)]
theorem zc9_mid {y : Int32} (h0 : (0 : Int64) ≤ y.toInt64) (h : y.toInt64 ≤ (9 : Int64)) : zc9 y = y := by
  rw [Int64.le_iff_toInt_le, zwide_i, zl9] at h
  rw [Int64.le_iff_toInt_le, zwide_i, zl0] at h0
  unfold zc9
  have e : (if y < 9 then y else 9) = y := by
    by_cases q : y < 9
    · rw [if_pos q]
    · rw [if_neg q]
      rw [Int32.lt_iff_toInt_lt, zI9] at q
      exact Int32.toInt_inj.mp (by rw [zI9]; omega)
  rw [e]
  by_cases q : 0 < y
  · rw [if_pos q]
  · rw [if_neg q]
    rw [Int32.lt_iff_toInt_lt, zI0] at q
    exact Int32.toInt_inj.mp (by rw [zI0]; omega)
theorem zwn (y : Int32) : y.toInt64.toInt32 = y := Int32.toInt32_toInt64 y
abbrev zML1 (ξ : Nat → Nat → Int32) (i : Nat) (hp : Int32) (v : Option (Int32 × Nat)) : Prop := (v = none ∧ hp = -1 ∧ ξ 64 i = -1) ∨ (v = none ∧ 0 ≤ hp ∧ ξ 64 i = 0 ∧ ξ 65 i = hp) ∨ ∃ sort size, v = some (sort, size) ∧ hp = -1 ∧ ξ 64 i = 1 ∧ ξ 65 i = sort ∧ (0 ≤ sort ∧ sort ≤ 3) ∧ ξ 66 i = nI size
abbrev zML (ξ : Nat → Nat → Int32) (hp : Nat → Int32) (sl : zSl) : Prop := ∀ i, i < 4 → zML1 ξ i (hp i) (sl i)
theorem zML.up {ξ ξ1 : Nat → Nat → Int32} {hp : Nat → Int32} {sl : zSl} {i : Nat} {h1 : Int32} {v : Option (Int32 × Nat)} (hL : zML ξ hp sl) (fo : ∀ j, j ≠ i → ξ1 64 j = ξ 64 j ∧ ξ1 65 j = ξ 65 j ∧ ξ1 66 j = ξ 66 j) (hi : zML1 ξ1 i h1 v) : zML ξ1 (upd hp i h1) (va_up sl i v) := fun j hj => by
  by_cases q : j = i
  · subst q
    rw [va_up_self, show upd hp j h1 j = h1 from if_pos rfl]
    exact hi
  · rw [va_up_ne _ _ q, show upd hp i h1 j = hp j from if_neg q]
    obtain ⟨f1, f2, f3⟩ := fo j q
    rcases hL j hj with ⟨a, b, c⟩ | ⟨a, b, c, e⟩ | ⟨so, si, a, b, c, e, f, g⟩
    · exact Or.inl ⟨a, b, f1.trans c⟩
    · exact Or.inr (Or.inl ⟨a, b, f1.trans c, f2.trans e⟩)
    · exact Or.inr (Or.inr ⟨so, si, a, b, f1.trans c, f2.trans e, f, f3.trans g⟩)
def zkon (K : zCs) (hp : Nat → Int32) (sl : zSl) (i : Nat) : Int32 := match sl i with
  | some _ => 9
  | none => if zpon K hp i = -1 then -1 else K.p (zpon K hp i).toNatClampNeg 0
abbrev zund (k a : Int32) : Prop := a = 0 ∨ a = k ∨ (a = 1 ∧ k = 3) ∨ (a = 2 ∧ k = 4)
theorem zund_of : ∀ k, k ≤ 5 → ∀ a, a ≤ 5 → (zund (nI k) (nI a) ↔ zofk 6 (nI k) (nI a) = true) := by decide +kernel
set_option maxRecDepth 20000 in
set_option maxHeartbeats 1000000 in
theorem c_Mminds {S : Nat × (Nat → Int32)} {d n : Nat} {ξ : Nat → Nat → Int32} {ρ : zRho} {K : zCs} (h : zMR ξ 0 K) (hK : zOK K) {sh : zSh} (hS : zMS ξ ρ.2.2.1 sh) (x y p m : Int32) : Zc S (d + 3) jX6_minds [.ref 42, .int x, .int y, .int p, .int m] (zWof n ξ ρ) (fun r w => ∃ ξ2, w = zWof n ξ2 ρ ∧ r = some (.int (zmindsF K sh x y p m).2) ∧ zMR ξ2 0 (zmindsF K sh x y p m).1 ∧ zfm ξ ξ2) := by
  have hd3 := hK.d3
  have hm6 := hK.m6
  have ht60 := hK.t60
  refine Zc_in (q := (6, 0, 1, 4, 9, 0, 0, zk_X6_minds)) rfl (Nat.le_of_ble_eq_true rfl) (L := [_, _, _, _, _, _, _, _, _]) rfl ?_
  refine zr_iload_n 1 rfl rfl rfl ?_
  refine zr_calls 4 (As := [_]) (u2 := (0, 0)) rfl rfl rfl rfl rfl rfl rfl (Nat.le_of_ble_eq_true rfl) (Nat.le_of_ble_eq_true rfl) (Nat.le_of_ble_eq_true rfl) (c_MisShelf _) rfl (fun v2 w2 h1z => ?_)
  obtain ⟨rfl, rfl⟩ := h1z
  refine zr_if_eq 37 7 rfl rfl (by decide) (fun c4z => ?_) (fun c4z => ?_)
  · replace c4z := zb_0.mp c4z
    refine zr_iconst 38 (x := (-1)) rfl rfl (by decide) ?_
    refine zr_iret rfl rfl ?_
    refine ⟨ξ, rfl, ?_⟩
    have e : zmindsF K sh x y p m = (K, -1) := by
      unfold zmindsF
      rw [if_pos (fun q => c4z q.1)]
    rw [e]
    exact ⟨rfl, h, zfm.rf _⟩
  · replace c4z := zb_n0.mp c4z
    obtain ⟨i, hi, rfl⟩ := zperI (m := 4) (M := 4) rfl (by decide) c4z
    refine zr_aload_n 8 rfl rfl rfl trivial ?_
    refine zr_iload_n 9 rfl rfl rfl ?_
    refine zr_callv 12 (As := [_]) (u2 := (0, 0)) rfl rfl rfl rfl rfl rfl rfl (Nat.le_of_ble_eq_true rfl) (Nat.le_of_ble_eq_true rfl) (Nat.le_of_ble_eq_true rfl) rfl (c_MisPerson h hK _) rfl (fun v2 w2 h9z => ?_)
    obtain ⟨rfl, rfl⟩ := h9z
    refine zr_if_eq 37 15 rfl rfl (by decide) (fun c12z => ?_) (fun c12z => ?_)
    · replace c12z := zb_0.mp c12z
      refine zr_iconst 38 (x := (-1)) rfl rfl (by decide) ?_
      refine zr_iret rfl rfl ?_
      refine ⟨ξ, rfl, ?_⟩
      have e : zmindsF K sh (nI i) y p m = (K, -1) := by
        unfold zmindsF
        rw [if_pos (fun q => c12z q.2.1)]
      rw [e]
      exact ⟨rfl, h, zfm.rf _⟩
    · replace c12z := zb_n0.mp c12z
      obtain ⟨p0, hp, rfl⟩ := zperI rfl (by omega) c12z
      refine zr_iload 17 rfl rfl rfl ?_
      refine zr_iconst 18 (x := 0) rfl rfl (by decide) ?_
      refine zr_bipush 20 (x := 6) rfl rfl (by decide) ?_
      refine zr_calls 23 (As := [_, _, _]) (u2 := (0, 0)) rfl rfl rfl rfl rfl rfl rfl (Nat.le_of_ble_eq_true rfl) (Nat.le_of_ble_eq_true rfl) (Nat.le_of_ble_eq_true rfl) (c_Min _ _ _) rfl (fun v2 w2 h20z => ?_)
      obtain ⟨rfl, rfl⟩ := h20z
      refine zr_if_eq 37 26 rfl rfl (by decide) (fun c23z => ?_) (fun c23z => ?_)
      · replace c23z := zb_0.mp c23z
        refine zr_iconst 38 (x := (-1)) rfl rfl (by decide) ?_
        refine zr_iret rfl rfl ?_
        refine ⟨ξ, rfl, ?_⟩
        have e : zmindsF K sh (nI i) y (nI p0) m = (K, -1) := by
          unfold zmindsF
          rw [if_pos (fun q => c23z ⟨q.2.2.1, q.2.2.2.1⟩)]
        rw [e]
        exact ⟨rfl, h, zfm.rf _⟩
      · replace c23z := zb_n0.mp c23z
        obtain ⟨m0, hm0, rfl⟩ := zbetI (k := 6) rfl (by decide) c23z.1 c23z.2
        refine zr_iload_n 27 rfl rfl rfl ?_
        refine zr_iload 29 rfl rfl rfl ?_
        refine zr_iadd 30 rfl rfl ?_
        refine zr_aload_n 31 rfl rfl rfl trivial ?_
        refine zr_getf 34 rfl rfl rfl rfl rfl ?_
        refine zr_icmp_le 39 37 rfl rfl (by decide) (fun c34z => ?_) (fun c34z => ?_)
        · rw [h.hm, nI_add, nI_leI (by omega) (by omega)] at c34z
          have hc : (0 ≤ nI i ∧ nI i < 4) ∧ (0 ≤ nI p0 ∧ nI p0 < nI K.M) ∧ 0 ≤ nI m0 ∧ nI m0 ≤ 6 ∧ nI m0 ≤ nI K.M - nI p0 := ⟨c4z, c12z, c23z.1, c23z.2, by rw [znsub (by omega)]; exact (nI_leI (by omega) (by omega)).mpr (by omega)⟩
          rcases hS i hi with ⟨a, b⟩ | ⟨so, si, it, a1, a2, a3, a4, a5, a6, a7⟩
          · refine zr_aload_n 40 rfl rfl rfl trivial ?_
            refine zr_iload_n 41 rfl rfl rfl ?_
            refine zr_iconst 42 (x := 0) rfl rfl (by decide) ?_
            refine zr_callv 45 (As := [_, _]) (u2 := (0, 0)) rfl rfl rfl rfl rfl rfl rfl (Nat.le_of_ble_eq_true rfl) (Nat.le_of_ble_eq_true rfl) (Nat.le_of_ble_eq_true rfl) rfl (c_MlacksSort hi _) rfl (fun v2 w2 h42z => ?_)
            obtain ⟨rfl, rfl⟩ := h42z
            refine zr_istore 47 (L2 := [_, _, _, _, _, _, _, _, _]) rfl rfl (Nat.le_of_ble_eq_true rfl) (by first | exact trivial | exact rfl) rfl ?_
            refine zr_iload 49 rfl rfl rfl ?_
            refine zr_if_eq 55 52 rfl rfl (by decide) (fun c49z => ?_) (fun c49z => ?_)
            · exact absurd c49z (by rw [b, if_pos (by decide)]; decide)
            · refine zr_iload 54 rfl rfl rfl ?_
              refine zr_iret rfl rfl ?_
              rw [b, if_pos (by decide)]
              refine ⟨ξ, rfl, ?_⟩
              have e : zmindsF K sh (nI i) y (nI p0) (nI m0) = (K, -11) := by
                unfold zmindsF
                rw [if_neg (fun q => q hc), nI_clamp (by omega), a]
              rw [e]
              exact ⟨rfl, h, zfm.rf _⟩
          · refine zr_aload_n 40 rfl rfl rfl trivial ?_
            refine zr_iload_n 41 rfl rfl rfl ?_
            refine zr_iconst 42 (x := 0) rfl rfl (by decide) ?_
            refine zr_callv 45 (As := [_, _]) (u2 := (0, 0)) rfl rfl rfl rfl rfl rfl rfl (Nat.le_of_ble_eq_true rfl) (Nat.le_of_ble_eq_true rfl) (Nat.le_of_ble_eq_true rfl) rfl (c_MlacksSort hi _) rfl (fun v2 w2 h42z => ?_)
            obtain ⟨rfl, rfl⟩ := h42z
            refine zr_istore 47 (L2 := [_, _, _, _, _, _, _, _, _]) rfl rfl (Nat.le_of_ble_eq_true rfl) (by first | exact trivial | exact rfl) rfl ?_
            refine zr_iload 49 rfl rfl rfl ?_
            refine zr_if_eq 55 52 rfl rfl (by decide) (fun c49z => ?_) (fun c49z => ?_)
            · have e1 : so = 0 := by
                rw [a2, if_neg (Int32.not_lt.mpr a3.1)] at c49z
                by_cases q : so = 0
                · exact q
                · rw [if_neg q] at c49z
                  exact absurd c49z (by decide)
              refine zr_iload_n 56 rfl rfl rfl ?_
              refine zr_if_lt 72 59 rfl rfl (by decide) (fun c56z => ?_) (fun c56z => ?_)
              · refine zr_bipush 74 (x := (-12)) rfl rfl (by decide) ?_
                refine zr_iret rfl rfl ?_
                refine ⟨ξ, rfl, ?_⟩
                have e : zmindsF K sh (nI i) y (nI p0) (nI m0) = (K, -12) := by
                  unfold zmindsF
                  rw [if_neg (fun q => q hc), nI_clamp (by omega), a1]
                  exact (if_neg (fun q => q e1)).trans (if_pos (Or.inl c56z))
                rw [e]
                exact ⟨rfl, h, zfm.rf _⟩
              · refine zr_iload_n 60 rfl rfl rfl ?_
                refine zr_aload_n 61 rfl rfl rfl trivial ?_
                refine zr_getf 64 rfl rfl rfl rfl rfl ?_
                refine zr_iload_n 65 rfl rfl rfl ?_
                refine zr_iald 66 rfl rfl rfl (nI_clamp (by omega)) (vp_in_nI (by omega) (by omega)) ?_
                refine zr_iload 68 rfl rfl rfl ?_
                refine zr_isub 69 rfl rfl ?_
                refine zr_icmp_le 75 72 rfl rfl (by decide) (fun c69z => ?_) (fun c69z => ?_)
                · rw [a4] at c69z
                  have hns : ¬ (y < 0 ∨ nI si - nI m0 < y) := fun q => q.elim c56z (fun z => absurd c69z (Int32.not_le.mpr z))
                  have hsi : m0 ≤ si := by
                    have z := Int32.le_iff_toInt_le.mp c69z
                    have z0 := Int32.le_iff_toInt_le.mp (Int32.not_lt.mp c56z)
                    rw [zTsub (by rw [nI_toInt (by omega), nI_toInt (by omega)]; omega) (by rw [nI_toInt (by omega), nI_toInt (by omega)]; omega), nI_toInt (by omega), nI_toInt (by omega)] at z
                    rw [zI0] at z0
                    omega
                  rw [znsub hsi] at c69z
                  obtain ⟨i0, hi0, rfl⟩ := zbetI (k := si - m0) rfl (by omega) (Int32.not_lt.mp c56z) c69z
                  have e0 : zmindsF K sh (nI i) (nI i0) (nI p0) (nI m0) = (zmnd K p0 i0 it m0, nI m0) := by
                    unfold zmindsF
                    rw [if_neg (fun q => q hc), nI_clamp (by omega), nI_clamp (by omega), nI_clamp (by omega), nI_clamp (by omega), a1]
                    exact (if_neg (fun q => q e1)).trans (if_neg hns)
                  have key : ∀ (k2 : Nat) (k : Nat) (ξ1 : Nat → Nat → Int32) (no : Int32), m0 - k = k2 → k ≤ m0 → zMR ξ1 0 (zmnd K p0 i0 it k) → zfm ξ ξ1 →  Zw S (Zc S (d + 2)) 6 false 1 zk_X6_minds (fun r w => ∃ ξ2, w = zWof n ξ2 ρ ∧ r = some (.int (zmindsF K sh (nI i) (nI i0) (nI p0) (nI m0)).2) ∧ zMR ξ2 0 (zmindsF K sh (nI i) (nI i0) (nI p0) (nI m0)).1 ∧ zfm ξ ξ2) (78, [some (.ref 42), some (.int (nI i)), some (.int (nI i0)), some (.int (nI p0)), some (.int (nI m0)), some (.int no), some (.int (nI k)), none, none], [], (0, 0), zWof n ξ1 ρ) := by
                    intro k2
                    induction k2 using Nat.strongRecOn with
                    | ind k2 ih =>
                      intro k ξ1 no hk hk2 m1 f1
                      refine zr_iload 80 rfl rfl rfl ?_
                      refine zr_iload 82 rfl rfl rfl ?_
                      refine zr_icmp_ge 144 85 rfl rfl (by decide) (fun c82z => ?_) (fun c82z => ?_)
                      · rw [nI_leI (by omega) (by omega)] at c82z
                        refine zr_iload 146 rfl rfl rfl ?_
                        refine zr_iret rfl rfl ?_
                        refine ⟨ξ1, rfl, ?_⟩
                        rw [e0, show m0 = k by omega]
                        exact ⟨rfl, m1, f1⟩
                      · rw [nI_leI (by omega) (by omega)] at c82z
                        obtain ⟨yy, ey⟩ := a7 (i0 + k) (by omega)
                        have ew := a6 (i0 + k) (by omega)
                        rw [ey] at ew
                        refine zr_aload_n 86 rfl rfl rfl trivial ?_
                        refine zr_getf 89 rfl rfl rfl rfl rfl ?_
                        refine zr_bipush 91 (x := 40) rfl rfl (by decide) ?_
                        refine zr_iload_n 92 rfl rfl rfl ?_
                        refine zr_imul 93 rfl rfl ?_
                        refine zr_iload_n 94 rfl rfl rfl ?_
                        refine zr_iadd 95 rfl rfl ?_
                        refine zr_iload 97 rfl rfl rfl ?_
                        rw [zm40k]
                        refine zr_iadd 98 rfl rfl ?_
                        rw [nI_add, show i * 40 + i0 + k = i * 40 + (i0 + k) by omega]
                        refine zr_lald 99 rfl rfl rfl (nI_clamp (by omega)) (vp_in_nI (by omega) (by omega)) ?_
                        rw [ew]
                        refine zr_lstore 101 (L2 := [_, _, _, _, _, _, _, _, _]) rfl rfl (Nat.le_of_ble_eq_true rfl) (by first | exact trivial | exact rfl) rfl ?_
                        refine zr_aload_n 102 rfl rfl rfl trivial ?_
                        refine zr_getf 105 rfl rfl rfl rfl rfl ?_
                        refine zr_iload_n 106 rfl rfl rfl ?_
                        refine zr_iload 108 rfl rfl rfl ?_
                        refine zr_iadd 109 rfl rfl ?_
                        rw [nI_add]
                        refine zr_lload 111 rfl rfl rfl ?_
                        refine zr_lconst 112 (x := 0) rfl rfl (by decide) ?_
                        refine zr_lcmp 113 rfl rfl ?_
                        refine zr_if_ge 120 116 rfl rfl (by decide) (fun c113z => ?_) (fun c113z => ?_)
                        · rw [lg_cmp_ge] at c113z
                          refine zr_lload 122 rfl rfl rfl ?_
                          refine zr_ldc2_w 125 rfl rfl rfl ?_
                          refine zr_lcmp 126 rfl rfl ?_
                          refine zr_if_le 134 129 rfl rfl (by decide) (fun c126z => ?_) (fun c126z => ?_)
                          · rw [lg_cmp_le] at c126z
                            refine zr_lload 136 rfl rfl rfl ?_
                            refine zr_l2i 137 rfl rfl ?_
                            refine zr_iast 138 rfl rfl rfl (nI_clamp (by omega)) (vp_in_nI (by omega) (by omega)) (zW_set rfl) ?_
                            refine zr_iinc 141 (c0 := 1) (L2 := [_, _, _, _, _, _, _, _, _]) rfl rfl rfl (by first | exact trivial | exact rfl) (by decide) rfl ?_
                            refine zr_goto 78 rfl (by decide) ?_
                            rw [nI_1]
                            refine zs_forget (L' := [_, _, _, _, _, _, _, none, none]) (zsub_s (zsub_s (zsub_s (zsub_s (zsub_s (zsub_s (zsub_s (zsub_n (zsub_n zsub_0))))))))) ?_
                            refine ih _ (by omega) (k + 1) _ no rfl (by omega) ?_ (f1.u 47 _ _ (by omega))
                            have q := m1.u47 (i := p0 + k) (zc9 (it (i0 + k)).toInt32)
                            rw [ey, zwn, zc9_mid c113z c126z] at q
                            refine Eq.mp (congrArg (fun z => zMR _ 0 z) ?_) (Eq.mp (congrArg (fun z => zMR (zu ξ1 47 (p0 + k) z) 0 _) (zwn yy).symm) q)
                            show _ = (zmnd K p0 i0 it k).sp (p0 + k) 1 (zc9 (it (i0 + k)).toInt32)
                            rw [ey, zwn, zc9_mid c113z c126z]
                          · rw [lg_cmp_le] at c126z
                            refine zr_bipush 131 (x := 9) rfl rfl (by decide) ?_
                            refine zr_goto 137 rfl (by decide) ?_
                            refine zr_iast 138 rfl rfl rfl (nI_clamp (by omega)) (vp_in_nI (by omega) (by omega)) (zW_set rfl) ?_
                            refine zr_iinc 141 (c0 := 1) (L2 := [_, _, _, _, _, _, _, _, _]) rfl rfl rfl (by first | exact trivial | exact rfl) (by decide) rfl ?_
                            refine zr_goto 78 rfl (by decide) ?_
                            rw [nI_1]
                            refine zs_forget (L' := [_, _, _, _, _, _, _, none, none]) (zsub_s (zsub_s (zsub_s (zsub_s (zsub_s (zsub_s (zsub_s (zsub_n (zsub_n zsub_0))))))))) ?_
                            refine ih _ (by omega) (k + 1) _ no rfl (by omega) ?_ (f1.u 47 _ _ (by omega))
                            have q := m1.u47 (i := p0 + k) (zc9 (it (i0 + k)).toInt32)
                            rw [ey, zwn, zc9_hi c126z] at q
                            refine Eq.mp (congrArg (fun z => zMR _ 0 z) ?_) q
                            show _ = (zmnd K p0 i0 it k).sp (p0 + k) 1 (zc9 (it (i0 + k)).toInt32)
                            rw [ey, zwn, zc9_hi c126z]
                        · rw [lg_cmp_ge] at c113z
                          refine zr_iconst 117 (x := 0) rfl rfl (by decide) ?_
                          refine zr_goto 137 rfl (by decide) ?_
                          refine zr_iast 138 rfl rfl rfl (nI_clamp (by omega)) (vp_in_nI (by omega) (by omega)) (zW_set rfl) ?_
                          refine zr_iinc 141 (c0 := 1) (L2 := [_, _, _, _, _, _, _, _, _]) rfl rfl rfl (by first | exact trivial | exact rfl) (by decide) rfl ?_
                          refine zr_goto 78 rfl (by decide) ?_
                          rw [nI_1]
                          refine zs_forget (L' := [_, _, _, _, _, _, _, none, none]) (zsub_s (zsub_s (zsub_s (zsub_s (zsub_s (zsub_s (zsub_s (zsub_n (zsub_n zsub_0))))))))) ?_
                          refine ih _ (by omega) (k + 1) _ no rfl (by omega) ?_ (f1.u 47 _ _ (by omega))
                          have q := m1.u47 (i := p0 + k) (zc9 (it (i0 + k)).toInt32)
                          rw [ey, zwn, zc9_lo c113z] at q
                          refine Eq.mp (congrArg (fun z => zMR _ 0 z) ?_) q
                          show _ = (zmnd K p0 i0 it k).sp (p0 + k) 1 (zc9 (it (i0 + k)).toInt32)
                          rw [ey, zwn, zc9_lo c113z]
                  refine zr_iconst 76 (x := 0) rfl rfl (by decide) ?_
                  refine zr_istore 78 (L2 := [_, _, _, _, _, _, _, _, _]) rfl rfl (Nat.le_of_ble_eq_true rfl) (by first | exact trivial | exact rfl) rfl ?_
                  exact key _ 0 ξ _ rfl (Nat.zero_le _) h (zfm.rf _)
                · rw [a4] at c69z
                  refine zr_bipush 74 (x := (-12)) rfl rfl (by decide) ?_
                  refine zr_iret rfl rfl ?_
                  refine ⟨ξ, rfl, ?_⟩
                  have e : zmindsF K sh (nI i) y (nI p0) (nI m0) = (K, -12) := by
                    unfold zmindsF
                    rw [if_neg (fun q => q hc), nI_clamp (by omega), a1]
                    exact (if_neg (fun q => q e1)).trans (if_pos (Or.inr (Int32.not_le.mp c69z)))
                  rw [e]
                  exact ⟨rfl, h, zfm.rf _⟩
            · have e1 : ¬ so = 0 := by
                rw [a2, if_neg (Int32.not_lt.mpr a3.1)] at c49z
                intro q
                exact c49z (if_pos q)
              refine zr_iload 54 rfl rfl rfl ?_
              refine zr_iret rfl rfl ?_
              rw [a2, if_neg (Int32.not_lt.mpr a3.1), if_neg e1]
              refine ⟨ξ, rfl, ?_⟩
              have e : zmindsF K sh (nI i) y (nI p0) (nI m0) = (K, -13) := by
                unfold zmindsF
                rw [if_neg (fun q => q hc), nI_clamp (by omega), a1]
                exact if_pos e1
              rw [e]
              exact ⟨rfl, h, zfm.rf _⟩
        · rw [h.hm, nI_add, nI_leI (by omega) (by omega)] at c34z
          refine zr_iconst 38 (x := (-1)) rfl rfl (by decide) ?_
          refine zr_iret rfl rfl ?_
          refine ⟨ξ, rfl, ?_⟩
          have e : zmindsF K sh (nI i) y (nI p0) (nI m0) = (K, -1) := by
            unfold zmindsF
            rw [if_pos (fun q => ?_)]
            have z := q.2.2.2.2
            rw [znsub (by omega), nI_leI (by omega) (by omega)] at z
            omega
          rw [e]
          exact ⟨rfl, h, zfm.rf _⟩
