abbrev zMS1 (ξ : Nat → Nat → Int32) (g : Nat → Int64) (i : Nat) (v : Option (Int32 × Nat × (Nat → Int64))) : Prop := (v = none ∧ ξ 61 i = -1) ∨ ∃ sort size it, v = some (sort, size, it) ∧ ξ 61 i = sort ∧ (0 ≤ sort ∧ sort ≤ 3) ∧ ξ 62 i = nI size ∧ size ≤ 40 ∧ (∀ k, k < size → g (i * 40 + k) = it k) ∧ ∀ k, k < size → ∃ y : Int32, it k = y.toInt64
abbrev zMS (ξ : Nat → Nat → Int32) (g : Nat → Int64) (sh : zSh) : Prop := ∀ i, i < 4 → zMS1 ξ g i (sh i)
theorem zMS.up {ξ ξ1 : Nat → Nat → Int32} {g g1 : Nat → Int64} {sh : zSh} {i : Nat} {v : Option (Int32 × Nat × (Nat → Int64))} (hS : zMS ξ g sh) (fo : ∀ j, j < 4 → j ≠ i → ξ1 61 j = ξ 61 j ∧ ξ1 62 j = ξ 62 j ∧ ∀ k, k < 40 → g1 (j * 40 + k) = g (j * 40 + k)) (hi : zMS1 ξ1 g1 i v) : zMS ξ1 g1 (va_up sh i v) := fun j hj => by
  by_cases q : j = i
  · subst q
    rw [va_up_self]
    exact hi
  · rw [va_up_ne _ _ q]
    obtain ⟨f1, f2, f3⟩ := fo j hj q
    rcases hS j hj with ⟨a, b⟩ | ⟨so, si, it, a1, a2, a3, a4, a5, a6, a7⟩
    · exact Or.inl ⟨a, f1.trans b⟩
    · exact Or.inr ⟨so, si, it, a1, f1.trans a2, a3, f2.trans a4, a5, fun k hk => (f3 k (by omega)).trans (a6 k hk), a7⟩
theorem zm40 (r : Nat) : (40 : Int32) * nI r = nI (r * 40) := by rw [Int32.mul_comm]; exact (Int32.ofNat_mul r 40).symm
theorem zm40k (r k : Nat) : (40 : Int32) * nI r + nI k = nI (r * 40 + k) := by rw [zm40]; exact nI_add _ _
theorem zupL_self (f : Nat → Int64) (k : Nat) (v : Int64) : vp_updL f k v k = v := by unfold vp_updL; rw [if_pos rfl]
theorem zupL_ne {f : Nat → Int64} {k j : Nat} {v : Int64} (h : j ≠ k) : vp_updL f k v j = f j := by unfold vp_updL; rw [if_neg h]
theorem zr04 (x : Int32) : (0 ≤ x ∧ x ≤ 3) ↔ (0 ≤ x ∧ x < 4) := zle1 (M := 4) (by decide)
theorem zrm4 (x : Int32) : (-1 ≤ x ∧ x ≤ 3) ↔ (-1 ≤ x ∧ x < 4) := by
  rw [Int32.le_iff_toInt_le, Int32.le_iff_toInt_le, Int32.lt_iff_toInt_lt, show (3 : Int32).toInt = 3 by decide, show (4 : Int32).toInt = 4 by decide]
  omega
theorem zcv_w (s v : Int32) : ∃ y : Int32, zcv s v = y.toInt64 := by
  unfold zcv
  split
  · exact ⟨_, rfl⟩
  · split
    · exact ⟨_, rfl⟩
    · exact ⟨_, rfl⟩
theorem zneg1 {x : Int32} (h1 : -1 ≤ x) (h2 : x < 0) : x = -1 := by
  have a := Int32.le_iff_toInt_le.mp h1
  have b := Int32.lt_iff_toInt_lt.mp h2
  rw [zI0] at b
  rw [show (-1 : Int32).toInt = -1 by decide] at a
  exact Int32.toInt_inj.mp (by rw [show (-1 : Int32).toInt = -1 by decide]; omega)
theorem zne1 {x : Int32} (h : ¬ x < 0) : ¬ x = -1 := fun q => h (by rw [q]; decide)
set_option maxRecDepth 20000 in
set_option maxHeartbeats 1000000 in
theorem c_MisShelf {S : Nat × (Nat → Int32)} {d n : Nat} {ξ : Nat → Nat → Int32} {ρ : zRho} (x : Int32) : Zc S (d + 2) jX6_isShelf [.int x] (zWof n ξ ρ) (fun r w => r = some (.int (zb (0 ≤ x ∧ x < 4))) ∧ w = zWof n ξ ρ) := by
  refine Zc_in (q := (6, 2, 3, 1, 1, 0, 0, zk_X6_isShelf)) rfl (Nat.le_of_ble_eq_true rfl) (L := [_]) rfl ?_
  refine zr_iload_n 1 rfl rfl rfl ?_
  refine zr_iconst 2 (x := 0) rfl rfl (by decide) ?_
  refine zr_iconst 3 (x := 3) rfl rfl (by decide) ?_
  refine zr_calls 6 (As := [_, _, _]) (u2 := (0, 0)) rfl rfl rfl rfl rfl rfl rfl (Nat.le_of_ble_eq_true rfl) (Nat.le_of_ble_eq_true rfl) (Nat.le_of_ble_eq_true rfl) (c_Min _ _ _) rfl (fun v2 w2 h3z => ?_)
  obtain ⟨rfl, rfl⟩ := h3z
  refine zr_zret rfl rfl (zb_01 _) ?_
  refine ⟨?_, rfl⟩
  rw [zb_c (zr04 x)]
set_option maxRecDepth 20000 in
set_option maxHeartbeats 1000000 in
theorem c_Msheet {S : Nat × (Nat → Int32)} {d n : Nat} {ξ : Nat → Nat → Int32} {ρ : zRho} {sh : zSh} (hS : zMS ξ ρ.2.2.1 sh) (x sort m : Int32) : Zc S (d + 3) jX6_sheet [.ref 42, .int x, .int sort, .int m] (zWof n ξ ρ) (fun r w => ∃ ξ2 g, w = zWof n ξ2 (zρm ρ g) ∧ r = some (.int (zsheetF sh x sort m).2) ∧ zMS ξ2 g (zsheetF sh x sort m).1 ∧ ∀ b, b ≠ 61 → b ≠ 62 → ξ2 b = ξ b) := by
  refine Zc_in (q := (6, 0, 1, 3, 5, 0, 0, zk_X6_sheet)) rfl (Nat.le_of_ble_eq_true rfl) (L := [_, _, _, _, _]) rfl ?_
  refine zr_iload_n 1 rfl rfl rfl ?_
  refine zr_calls 4 (As := [_]) (u2 := (0, 0)) rfl rfl rfl rfl rfl rfl rfl (Nat.le_of_ble_eq_true rfl) (Nat.le_of_ble_eq_true rfl) (Nat.le_of_ble_eq_true rfl) (c_MisShelf _) rfl (fun v2 w2 h1z => ?_)
  obtain ⟨rfl, rfl⟩ := h1z
  refine zr_if_eq 26 7 rfl rfl (by decide) (fun c4z => ?_) (fun c4z => ?_)
  · replace c4z := zb_0.mp c4z
    refine zr_iconst 27 (x := (-1)) rfl rfl (by decide) ?_
    refine zr_iret rfl rfl ?_
    refine ⟨ξ, ρ.2.2.1, rfl, ?_⟩
    rw [show zsheetF sh x sort m = _ from if_pos (fun q => c4z q.1)]
    exact ⟨rfl, hS, fun _ _ _ => rfl⟩
  · replace c4z := zb_n0.mp c4z
    obtain ⟨i, hi, rfl⟩ := zperI (m := 4) (M := 4) rfl (by decide) c4z
    refine zr_iload_n 8 rfl rfl rfl ?_
    refine zr_iconst 9 (x := (-1)) rfl rfl (by decide) ?_
    refine zr_iconst 10 (x := 3) rfl rfl (by decide) ?_
    refine zr_calls 13 (As := [_, _, _]) (u2 := (0, 0)) rfl rfl rfl rfl rfl rfl rfl (Nat.le_of_ble_eq_true rfl) (Nat.le_of_ble_eq_true rfl) (Nat.le_of_ble_eq_true rfl) (c_Min _ _ _) rfl (fun v2 w2 h10z => ?_)
    obtain ⟨rfl, rfl⟩ := h10z
    refine zr_if_eq 26 16 rfl rfl (by decide) (fun c13z => ?_) (fun c13z => ?_)
    · replace c13z := zb_0.mp c13z
      rw [zrm4] at c13z
      refine zr_iconst 27 (x := (-1)) rfl rfl (by decide) ?_
      refine zr_iret rfl rfl ?_
      refine ⟨ξ, ρ.2.2.1, rfl, ?_⟩
      rw [show zsheetF sh (nI i) sort m = _ from if_pos (fun q => c13z q.2)]
      exact ⟨rfl, hS, fun _ _ _ => rfl⟩
    · replace c13z := zb_n0.mp c13z
      rw [zrm4] at c13z
      have key : ∀ (k : Nat) (j : Nat) (ξ1 : Nat → Nat → Int32) (g : Nat → Int64) (v : Option (Int32 × Nat × (Nat → Int64))), 40 - j = k → j ≤ 40 → zsheetF sh (nI i) sort m = (va_up sh i v, 1) → (∀ b, b ≠ 61 → b ≠ 62 → ξ1 b = ξ b) → (∀ q, q ≠ i → ξ1 61 q = ξ 61 q ∧ ξ1 62 q = ξ 62 q) → (∀ k, k < j → g (i * 40 + k) = 0) → (∀ k, (k < i * 40 ∨ i * 40 + 40 ≤ k) → g k = ρ.2.2.1 k) → ((v = none ∧ ξ1 61 i = -1) ∨ ∃ mm, v = some (sort, mm, fun _ => 0) ∧ ξ1 61 i = sort ∧ (0 ≤ sort ∧ sort ≤ 3) ∧ ξ1 62 i = nI mm ∧ mm ≤ 40) →  Zw S (Zc S (d + 2)) 6 false 1 zk_X6_sheet (fun r w => ∃ ξ2 g, w = zWof n ξ2 (zρm ρ g) ∧ r = some (.int (zsheetF sh (nI i) sort m).2) ∧ zMS ξ2 g (zsheetF sh (nI i) sort m).1 ∧ ∀ b, b ≠ 61 → b ≠ 62 → ξ2 b = ξ b) (64, [some (.ref 42), some (.int (nI i)), some (.int sort), some (.int m), some (.int (nI j))], [], (0, 0), zWof n ξ1 (zρm ρ g)) := by
        intro k
        induction k using Nat.strongRecOn with
        | ind k ih =>
          intro j ξ1 g v hk hj e0 fb fo gz gf hv
          refine zr_iload 66 rfl rfl rfl ?_
          refine zr_bipush 68 (x := 40) rfl rfl (by decide) ?_
          refine zr_icmp_ge 90 71 rfl rfl (by decide) (fun c68z => ?_) (fun c68z => ?_)
          · rw [show (40 : Int32) = nI 40 from rfl, nI_leI (by omega) (by omega)] at c68z
            refine zr_iconst 91 (x := 1) rfl rfl (by decide) ?_
            refine zr_iret rfl rfl ?_
            rw [e0]
            refine ⟨ξ1, g, rfl, rfl, hS.up (fun q hq hne => ⟨(fo q hne).1, (fo q hne).2, fun k hk => gf _ (by omega)⟩) ?_, fb⟩
            rcases hv with q | ⟨mm, q1, q2, q3, q4, q5⟩
            · exact Or.inl q
            · exact Or.inr ⟨sort, mm, _, q1, q2, q3, q4, q5, fun k hk => gz k (by omega), fun k _ => ⟨0, by decide⟩⟩
          · rw [show (40 : Int32) = nI 40 from rfl, nI_leI (by omega) (by omega)] at c68z
            refine zr_aload_n 72 rfl rfl rfl trivial ?_
            refine zr_getf 75 rfl rfl rfl rfl rfl ?_
            refine zr_bipush 77 (x := 40) rfl rfl (by decide) ?_
            refine zr_iload_n 78 rfl rfl rfl ?_
            refine zr_imul 79 rfl rfl ?_
            refine zr_iload 81 rfl rfl rfl ?_
            refine zr_iadd 82 rfl rfl ?_
            rw [zm40k]
            refine zr_lconst 83 (x := 0) rfl rfl (by decide) ?_
            refine zr_last 84 rfl rfl rfl (nI_clamp (by omega)) (vp_in_nI (by omega) (by omega)) (zW_ρm rfl) ?_
            refine zr_iinc 87 (c0 := 1) (L2 := [_, _, _, _, _]) rfl rfl rfl (by first | exact trivial | exact rfl) (by decide) rfl ?_
            refine zr_goto 64 rfl (by decide) ?_
            rw [nI_1]
            refine ih _ (by omega) (j + 1) ξ1 _ v rfl (by omega) e0 fb fo (fun k hk => ?_) (fun k hk => ?_) hv
            · by_cases q : k = j
              · subst q
                exact zupL_self _ _ _
              · exact (zupL_ne (by omega)).trans (gz k (by omega))
            · exact (zupL_ne (by omega)).trans (gf k hk)
      refine zr_iload_n 17 rfl rfl rfl ?_
      refine zr_if_lt 28 20 rfl rfl (by decide) (fun c17z => ?_) (fun c17z => ?_)
      · refine zr_iload_n 29 rfl rfl rfl ?_
        refine zr_if_lt 39 32 rfl rfl (by decide) (fun c29z => ?_) (fun c29z => ?_)
        · refine zr_aload_n 40 rfl rfl rfl trivial ?_
          refine zr_getf 43 rfl rfl rfl rfl rfl ?_
          refine zr_iload_n 44 rfl rfl rfl ?_
          refine zr_iload_n 45 rfl rfl rfl ?_
          refine zr_iast 46 rfl rfl rfl (nI_clamp (by omega)) (vp_in_nI (by omega) (by omega)) (zW_set rfl) ?_
          refine zr_aload_n 47 rfl rfl rfl trivial ?_
          refine zr_getf 50 rfl rfl rfl rfl rfl ?_
          refine zr_iload_n 51 rfl rfl rfl ?_
          refine zr_iload_n 52 rfl rfl rfl ?_
          refine zr_if_ge 59 55 rfl rfl (by decide) (fun c52z => ?_) (fun c52z => ?_)
          · exact absurd c52z (Int32.not_le.mpr c17z)
          · refine zr_iconst 56 (x := 0) rfl rfl (by decide) ?_
            refine zr_goto 60 rfl (by decide) ?_
            refine zr_iast 61 rfl rfl rfl (nI_clamp (by omega)) (vp_in_nI (by omega) (by omega)) (zW_set rfl) ?_
            refine zr_iconst 62 (x := 0) rfl rfl (by decide) ?_
            refine zr_istore 64 (L2 := [_, _, _, _, _]) rfl rfl (Nat.le_of_ble_eq_true rfl) (by first | exact trivial | exact rfl) rfl ?_
            have s1 : sort = -1 := zneg1 c13z.1 c17z
            refine key _ 0 _ ρ.2.2.1 none rfl (by omega) ?_ (fun b h1 h2 => by rw [zun h2, zun h1]) (fun q hq => ⟨by rw [zun (by decide), zu_ne (Or.inr hq)], by rw [zu_ne (Or.inr hq), zun (by decide)]⟩) (fun k hk => absurd hk (Nat.not_lt_zero _)) (fun k _ => rfl) (Or.inl ⟨rfl, by rw [zun (by decide), zu_same]; exact s1⟩)
            unfold zsheetF
            rw [if_neg (fun q => q ⟨c4z, c13z⟩), if_pos s1, nI_clamp (by omega)]
        · exact absurd c17z c29z
      · refine zr_iload_n 21 rfl rfl rfl ?_
        refine zr_bipush 23 (x := 40) rfl rfl (by decide) ?_
        refine zr_icmp_le 28 26 rfl rfl (by decide) (fun c23z => ?_) (fun c23z => ?_)
        · refine zr_iload_n 29 rfl rfl rfl ?_
          refine zr_if_lt 39 32 rfl rfl (by decide) (fun c29z => ?_) (fun c29z => ?_)
          · exact absurd c29z c17z
          · refine zr_iload_n 33 rfl rfl rfl ?_
            refine zr_if_ge 39 36 rfl rfl (by decide) (fun c33z => ?_) (fun c33z => ?_)
            · obtain ⟨mm, hmm, rfl⟩ := zbetI (k := 40) rfl (by decide) c33z c23z
              refine zr_aload_n 40 rfl rfl rfl trivial ?_
              refine zr_getf 43 rfl rfl rfl rfl rfl ?_
              refine zr_iload_n 44 rfl rfl rfl ?_
              refine zr_iload_n 45 rfl rfl rfl ?_
              refine zr_iast 46 rfl rfl rfl (nI_clamp (by omega)) (vp_in_nI (by omega) (by omega)) (zW_set rfl) ?_
              refine zr_aload_n 47 rfl rfl rfl trivial ?_
              refine zr_getf 50 rfl rfl rfl rfl rfl ?_
              refine zr_iload_n 51 rfl rfl rfl ?_
              refine zr_iload_n 52 rfl rfl rfl ?_
              refine zr_if_ge 59 55 rfl rfl (by decide) (fun c52z => ?_) (fun c52z => ?_)
              · refine zr_iload_n 60 rfl rfl rfl ?_
                refine zr_iast 61 rfl rfl rfl (nI_clamp (by omega)) (vp_in_nI (by omega) (by omega)) (zW_set rfl) ?_
                refine zr_iconst 62 (x := 0) rfl rfl (by decide) ?_
                refine zr_istore 64 (L2 := [_, _, _, _, _]) rfl rfl (Nat.le_of_ble_eq_true rfl) (by first | exact trivial | exact rfl) rfl ?_
                refine key _ 0 _ ρ.2.2.1 (some (sort, mm, fun _ => 0)) rfl (by omega) ?_ (fun b h1 h2 => by rw [zun h2, zun h1]) (fun q hq => ⟨by rw [zun (by decide), zu_ne (Or.inr hq)], by rw [zu_ne (Or.inr hq), zun (by decide)]⟩) (fun k hk => absurd hk (Nat.not_lt_zero _)) (fun k _ => rfl) (Or.inr ⟨mm, rfl, by rw [zun (by decide), zu_same], ⟨Int32.not_lt.mp c17z, ((zr04 sort).mpr ⟨Int32.not_lt.mp c17z, c13z.2⟩).2⟩, zu_same _ _ _ _, hmm⟩)
                unfold zsheetF
                rw [if_neg (fun q => q ⟨c4z, c13z⟩), if_neg (zne1 c17z), if_neg (Int32.not_lt.mpr c23z), if_neg (Int32.not_lt.mpr c33z), nI_clamp (by omega), nI_clamp (by omega)]
              · exact absurd (Int32.not_lt.mp c17z) c52z
            · refine zr_bipush 38 (x := (-14)) rfl rfl (by decide) ?_
              refine zr_iret rfl rfl ?_
              refine ⟨ξ, ρ.2.2.1, rfl, ?_⟩
              rw [show zsheetF sh (nI i) sort m = _ from (if_neg (fun q => q ⟨c4z, c13z⟩)).trans ((if_neg (zne1 c17z)).trans ((if_neg (Int32.not_lt.mpr c23z)).trans (if_pos (Int32.not_le.mp c33z))))]
              exact ⟨rfl, hS, fun _ _ _ => rfl⟩
        · refine zr_iconst 27 (x := (-1)) rfl rfl (by decide) ?_
          refine zr_iret rfl rfl ?_
          refine ⟨ξ, ρ.2.2.1, rfl, ?_⟩
          rw [show zsheetF sh (nI i) sort m = _ from (if_neg (fun q => q ⟨c4z, c13z⟩)).trans ((if_neg (zne1 c17z)).trans (if_pos (Int32.not_le.mp c23z)))]
          exact ⟨rfl, hS, fun _ _ _ => rfl⟩
set_option maxRecDepth 20000 in
set_option maxHeartbeats 1000000 in
theorem c_Mput {S : Nat × (Nat → Int32)} {d n : Nat} {ξ : Nat → Nat → Int32} {ρ : zRho} {sh : zSh} (hS : zMS ξ ρ.2.2.1 sh) (x y v : Int32) : Zc S (d + 3) jX6_put [.ref 42, .int x, .int y, .int v] (zWof n ξ ρ) (fun r w => ∃ ξ2 g, w = zWof n ξ2 (zρm ρ g) ∧ r = some (.int (zputF sh x y v).2) ∧ zMS ξ2 g (zputF sh x y v).1 ∧ ∀ b, b ≠ 61 → b ≠ 62 → ξ2 b = ξ b) := by
  refine Zc_in (q := (6, 0, 1, 3, 4, 0, 0, zk_X6_put)) rfl (Nat.le_of_ble_eq_true rfl) (L := [_, _, _, _]) rfl ?_
  refine zr_iload_n 1 rfl rfl rfl ?_
  refine zr_calls 4 (As := [_]) (u2 := (0, 0)) rfl rfl rfl rfl rfl rfl rfl (Nat.le_of_ble_eq_true rfl) (Nat.le_of_ble_eq_true rfl) (Nat.le_of_ble_eq_true rfl) (c_MisShelf _) rfl (fun v2 w2 h1z => ?_)
  obtain ⟨rfl, rfl⟩ := h1z
  refine zr_if_ne 9 7 rfl rfl (by decide) (fun c4z => ?_) (fun c4z => ?_)
  · replace c4z := zb_n0.mp c4z
    obtain ⟨i, hi, rfl⟩ := zperI (m := 4) (M := 4) rfl (by decide) c4z
    rcases hS i hi with ⟨a, b⟩ | ⟨so, si, it, a1, a2, a3, a4, a5, a6, a7⟩
    · refine zr_aload_n 10 rfl rfl rfl trivial ?_
      refine zr_getf 13 rfl rfl rfl rfl rfl ?_
      refine zr_iload_n 14 rfl rfl rfl ?_
      refine zr_iald 15 rfl rfl rfl (nI_clamp (by omega)) (vp_in_nI (by omega) (by omega)) ?_
      refine zr_if_ge 21 18 rfl rfl (by decide) (fun c15z => ?_) (fun c15z => ?_)
      · exact absurd c15z (by rw [b]; decide)
      · refine zr_bipush 20 (x := (-11)) rfl rfl (by decide) ?_
        refine zr_iret rfl rfl ?_
        refine ⟨ξ, ρ.2.2.1, rfl, ?_⟩
        have e : zputF sh (nI i) y v = (sh, -11) := by
          unfold zputF
          rw [if_neg (fun q => q c4z), nI_clamp (by omega), a]
        rw [e]
        exact ⟨rfl, hS, fun _ _ _ => rfl⟩
    · refine zr_aload_n 10 rfl rfl rfl trivial ?_
      refine zr_getf 13 rfl rfl rfl rfl rfl ?_
      refine zr_iload_n 14 rfl rfl rfl ?_
      refine zr_iald 15 rfl rfl rfl (nI_clamp (by omega)) (vp_in_nI (by omega) (by omega)) ?_
      refine zr_if_ge 21 18 rfl rfl (by decide) (fun c15z => ?_) (fun c15z => ?_)
      · refine zr_iload_n 22 rfl rfl rfl ?_
        refine zr_iconst 23 (x := 0) rfl rfl (by decide) ?_
        refine zr_aload_n 24 rfl rfl rfl trivial ?_
        refine zr_getf 27 rfl rfl rfl rfl rfl ?_
        refine zr_iload_n 28 rfl rfl rfl ?_
        refine zr_iald 29 rfl rfl rfl (nI_clamp (by omega)) (vp_in_nI (by omega) (by omega)) ?_
        refine zr_iconst 30 (x := 1) rfl rfl (by decide) ?_
        refine zr_isub 31 rfl rfl ?_
        refine zr_calls 34 (As := [_, _, _]) (u2 := (0, 0)) rfl rfl rfl rfl rfl rfl rfl (Nat.le_of_ble_eq_true rfl) (Nat.le_of_ble_eq_true rfl) (Nat.le_of_ble_eq_true rfl) (c_Min _ _ _) rfl (fun v2 w2 h31z => ?_)
        obtain ⟨rfl, rfl⟩ := h31z
        refine zr_if_ne 40 37 rfl rfl (by decide) (fun c34z => ?_) (fun c34z => ?_)
        · replace c34z := zb_n0.mp c34z
          rw [a4, zle1 (by omega)] at c34z
          obtain ⟨k, hk, rfl⟩ := zperI rfl (by omega) c34z
          refine zr_aload_n 41 rfl rfl rfl trivial ?_
          refine zr_getf 44 rfl rfl rfl rfl rfl ?_
          refine zr_bipush 46 (x := 40) rfl rfl (by decide) ?_
          refine zr_iload_n 47 rfl rfl rfl ?_
          refine zr_imul 48 rfl rfl ?_
          refine zr_iload_n 49 rfl rfl rfl ?_
          refine zr_iadd 50 rfl rfl ?_
          rw [zm40k]
          refine zr_aload_n 51 rfl rfl rfl trivial ?_
          refine zr_getf 54 rfl rfl rfl rfl rfl ?_
          refine zr_iload_n 55 rfl rfl rfl ?_
          refine zr_iald 56 rfl rfl rfl (nI_clamp (by omega)) (vp_in_nI (by omega) (by omega)) ?_
          refine zr_if_ne 65 59 rfl rfl (by decide) (fun c56z => ?_) (fun c56z => ?_)
          · refine zr_aload_n 66 rfl rfl rfl trivial ?_
            refine zr_getf 69 rfl rfl rfl rfl rfl ?_
            refine zr_iload_n 70 rfl rfl rfl ?_
            refine zr_iald 71 rfl rfl rfl (nI_clamp (by omega)) (vp_in_nI (by omega) (by omega)) ?_
            refine zr_iconst 72 (x := 1) rfl rfl (by decide) ?_
            refine zr_icmp_ne 81 75 rfl rfl (by decide) (fun c72z => ?_) (fun c72z => ?_)
            · refine zr_iload_n 82 rfl rfl rfl ?_
              refine zr_i2l 83 rfl rfl ?_
              refine zr_last 84 rfl rfl rfl (nI_clamp (by omega)) (vp_in_nI (by omega) (by omega)) (zW_ρm rfl) ?_
              refine zr_iconst 85 (x := 1) rfl rfl (by decide) ?_
              refine zr_iret rfl rfl ?_
              rw [a2] at c56z
              have eV : zcv so v = _ := (if_neg c56z).trans (if_neg (by rw [← a2]; exact c72z))
              have e : zputF sh (nI i) (nI k) v = (va_up sh i (some (so, si, vp_updL it k (zcv so v))), 1) := by
                unfold zputF
                rw [if_neg (fun q => q c4z), nI_clamp (by omega), nI_clamp (by omega), a1]
                exact if_pos c34z
              rw [e]
              refine ⟨ξ, _, rfl, rfl, hS.up (fun q hq hne => ⟨rfl, rfl, fun z hz => zupL_ne (by omega)⟩) (Or.inr ⟨so, si, _, rfl, a2, a3, a4, a5, fun z hz => ?_, fun z hz => ?_⟩), fun _ _ _ => rfl⟩
              · by_cases q : z = k
                · subst q
                  rw [zupL_self]
                  exact (zupL_self ρ.2.2.1 (i * 40 + z) _).trans eV.symm
                · rw [zupL_ne q]
                  exact (zupL_ne (f := ρ.2.2.1) (k := i * 40 + k) (j := i * 40 + z) (by omega)).trans (a6 z hz)
              · by_cases q : z = k
                · subst q
                  rw [zupL_self]
                  exact zcv_w _ _
                · rw [zupL_ne q]
                  exact a7 z hz
            · refine zr_iload_n 76 rfl rfl rfl ?_
              refine zr_i2s 77 rfl rfl ?_
              refine zr_i2l 78 rfl rfl ?_
              refine zr_goto 83 rfl (by decide) ?_
              refine zr_last 84 rfl rfl rfl (nI_clamp (by omega)) (vp_in_nI (by omega) (by omega)) (zW_ρm rfl) ?_
              refine zr_iconst 85 (x := 1) rfl rfl (by decide) ?_
              refine zr_iret rfl rfl ?_
              rw [a2] at c56z
              have eV : zcv so v = _ := (if_neg c56z).trans (if_pos (by rw [← a2]; exact c72z))
              have e : zputF sh (nI i) (nI k) v = (va_up sh i (some (so, si, vp_updL it k (zcv so v))), 1) := by
                unfold zputF
                rw [if_neg (fun q => q c4z), nI_clamp (by omega), nI_clamp (by omega), a1]
                exact if_pos c34z
              rw [e]
              refine ⟨ξ, _, rfl, rfl, hS.up (fun q hq hne => ⟨rfl, rfl, fun z hz => zupL_ne (by omega)⟩) (Or.inr ⟨so, si, _, rfl, a2, a3, a4, a5, fun z hz => ?_, fun z hz => ?_⟩), fun _ _ _ => rfl⟩
              · by_cases q : z = k
                · subst q
                  rw [zupL_self]
                  exact (zupL_self ρ.2.2.1 (i * 40 + z) _).trans eV.symm
                · rw [zupL_ne q]
                  exact (zupL_ne (f := ρ.2.2.1) (k := i * 40 + k) (j := i * 40 + z) (by omega)).trans (a6 z hz)
              · by_cases q : z = k
                · subst q
                  rw [zupL_self]
                  exact zcv_w _ _
                · rw [zupL_ne q]
                  exact a7 z hz
          · refine zr_iload_n 60 rfl rfl rfl ?_
            refine zr_i2b 61 rfl rfl ?_
            refine zr_i2l 62 rfl rfl ?_
            refine zr_goto 83 rfl (by decide) ?_
            refine zr_last 84 rfl rfl rfl (nI_clamp (by omega)) (vp_in_nI (by omega) (by omega)) (zW_ρm rfl) ?_
            refine zr_iconst 85 (x := 1) rfl rfl (by decide) ?_
            refine zr_iret rfl rfl ?_
            rw [a2] at c56z
            have eV : zcv so v = _ := if_pos c56z
            have e : zputF sh (nI i) (nI k) v = (va_up sh i (some (so, si, vp_updL it k (zcv so v))), 1) := by
              unfold zputF
              rw [if_neg (fun q => q c4z), nI_clamp (by omega), nI_clamp (by omega), a1]
              exact if_pos c34z
            rw [e]
            refine ⟨ξ, _, rfl, rfl, hS.up (fun q hq hne => ⟨rfl, rfl, fun z hz => zupL_ne (by omega)⟩) (Or.inr ⟨so, si, _, rfl, a2, a3, a4, a5, fun z hz => ?_, fun z hz => ?_⟩), fun _ _ _ => rfl⟩
            · by_cases q : z = k
              · subst q
                rw [zupL_self]
                exact (zupL_self ρ.2.2.1 (i * 40 + z) _).trans eV.symm
              · rw [zupL_ne q]
                exact (zupL_ne (f := ρ.2.2.1) (k := i * 40 + k) (j := i * 40 + z) (by omega)).trans (a6 z hz)
            · by_cases q : z = k
              · subst q
                rw [zupL_self]
                exact zcv_w _ _
              · rw [zupL_ne q]
                exact a7 z hz
        · replace c34z := zb_0.mp c34z
          rw [a4, zle1 (by omega)] at c34z
          refine zr_bipush 39 (x := (-12)) rfl rfl (by decide) ?_
          refine zr_iret rfl rfl ?_
          refine ⟨ξ, ρ.2.2.1, rfl, ?_⟩
          have e : zputF sh (nI i) y v = (sh, -12) := by
            unfold zputF
            rw [if_neg (fun q => q c4z), nI_clamp (by omega), a1]
            exact if_neg c34z
          rw [e]
          exact ⟨rfl, hS, fun _ _ _ => rfl⟩
      · exact absurd (by rw [a2]; exact a3.1) c15z
  · replace c4z := zb_0.mp c4z
    refine zr_iconst 8 (x := (-1)) rfl rfl (by decide) ?_
    refine zr_iret rfl rfl ?_
    refine ⟨ξ, ρ.2.2.1, rfl, ?_⟩
    rw [show zputF sh x y v = _ from if_pos c4z]
    exact ⟨rfl, hS, fun _ _ _ => rfl⟩
set_option maxRecDepth 20000 in
set_option maxHeartbeats 1000000 in
theorem c_MlacksSort {S : Nat × (Nat → Int32)} {d n : Nat} {ξ : Nat → Nat → Int32} {ρ : zRho} {i : Nat} (hi : i < 4) (so : Int32) : Zc S (d + 1) jX6_lacksSort [.ref 42, .int (nI i), .int so] (zWof n ξ ρ) (fun r w => r = some (.int (if ξ 61 i < 0 then -11 else if ξ 61 i = so then 0 else -13)) ∧ w = zWof n ξ ρ) := by
  refine Zc_in (q := (6, 0, 1, 2, 3, 0, 0, zk_X6_lacksSort)) rfl (Nat.le_of_ble_eq_true rfl) (L := [_, _, _]) rfl ?_
  refine zr_aload_n 1 rfl rfl rfl trivial ?_
  refine zr_getf 4 rfl rfl rfl rfl rfl ?_
  refine zr_iload_n 5 rfl rfl rfl ?_
  refine zr_iald 6 rfl rfl rfl (nI_clamp (by omega)) (vp_in_nI (by omega) (by omega)) ?_
  refine zr_if_ge 14 9 rfl rfl (by decide) (fun c6z => ?_) (fun c6z => ?_)
  · refine zr_aload_n 15 rfl rfl rfl trivial ?_
    refine zr_getf 18 rfl rfl rfl rfl rfl ?_
    refine zr_iload_n 19 rfl rfl rfl ?_
    refine zr_iald 20 rfl rfl rfl (nI_clamp (by omega)) (vp_in_nI (by omega) (by omega)) ?_
    refine zr_iload_n 21 rfl rfl rfl ?_
    refine zr_icmp_eq 29 24 rfl rfl (by decide) (fun c21z => ?_) (fun c21z => ?_)
    · refine zr_iconst 30 (x := 0) rfl rfl (by decide) ?_
      refine zr_iret rfl rfl ?_
      refine ⟨?_, rfl⟩
      rw [if_neg (Int32.not_lt.mpr c6z), if_pos c21z]
    · refine zr_bipush 26 (x := (-13)) rfl rfl (by decide) ?_
      refine zr_goto 30 rfl (by decide) ?_
      refine zr_iret rfl rfl ?_
      refine ⟨?_, rfl⟩
      rw [if_neg (Int32.not_lt.mpr c6z), if_neg c21z]
  · refine zr_bipush 11 (x := (-11)) rfl rfl (by decide) ?_
    refine zr_goto 30 rfl (by decide) ?_
    refine zr_iret rfl rfl ?_
    refine ⟨?_, rfl⟩
    rw [if_pos (Int32.not_le.mp c6z)]
set_option maxRecDepth 20000 in
set_option maxHeartbeats 1000000 in
theorem c_Mitem {S : Nat × (Nat → Int32)} {d n : Nat} {ξ : Nat → Nat → Int32} {ρ : zRho} {sh : zSh} (hS : zMS ξ ρ.2.2.1 sh) (x so y : Int32) : Zc S (d + 3) jX6_item [.ref 42, .int x, .int so, .int y] (zWof n ξ ρ) (fun r w => r = some (.int (zitemF sh x so y)) ∧ w = zWof n ξ ρ) := by
  refine Zc_in (q := (6, 0, 1, 3, 5, 0, 0, zk_X6_item)) rfl (Nat.le_of_ble_eq_true rfl) (L := [_, _, _, _, _]) rfl ?_
  refine zr_iload_n 1 rfl rfl rfl ?_
  refine zr_calls 4 (As := [_]) (u2 := (0, 0)) rfl rfl rfl rfl rfl rfl rfl (Nat.le_of_ble_eq_true rfl) (Nat.le_of_ble_eq_true rfl) (Nat.le_of_ble_eq_true rfl) (c_MisShelf _) rfl (fun v2 w2 h1z => ?_)
  obtain ⟨rfl, rfl⟩ := h1z
  refine zr_if_eq 16 7 rfl rfl (by decide) (fun c4z => ?_) (fun c4z => ?_)
  · replace c4z := zb_0.mp c4z
    refine zr_iconst 17 (x := (-1)) rfl rfl (by decide) ?_
    refine zr_iret rfl rfl ?_
    refine ⟨?_, rfl⟩
    rw [show zitemF sh x so y = _ from if_pos (fun q => c4z q.1)]
  · replace c4z := zb_n0.mp c4z
    obtain ⟨i, hi, rfl⟩ := zperI (m := 4) (M := 4) rfl (by decide) c4z
    refine zr_iload_n 8 rfl rfl rfl ?_
    refine zr_iconst 9 (x := 0) rfl rfl (by decide) ?_
    refine zr_iconst 10 (x := 3) rfl rfl (by decide) ?_
    refine zr_calls 13 (As := [_, _, _]) (u2 := (0, 0)) rfl rfl rfl rfl rfl rfl rfl (Nat.le_of_ble_eq_true rfl) (Nat.le_of_ble_eq_true rfl) (Nat.le_of_ble_eq_true rfl) (c_Min _ _ _) rfl (fun v2 w2 h10z => ?_)
    obtain ⟨rfl, rfl⟩ := h10z
    refine zr_if_ne 18 16 rfl rfl (by decide) (fun c13z => ?_) (fun c13z => ?_)
    · replace c13z := zb_n0.mp c13z
      rw [zr04] at c13z
      rcases hS i hi with ⟨a, b⟩ | ⟨so2, si, it, a1, a2, a3, a4, a5, a6, a7⟩
      · refine zr_aload_n 19 rfl rfl rfl trivial ?_
        refine zr_iload_n 20 rfl rfl rfl ?_
        refine zr_iload_n 21 rfl rfl rfl ?_
        refine zr_callv 24 (As := [_, _]) (u2 := (0, 0)) rfl rfl rfl rfl rfl rfl rfl (Nat.le_of_ble_eq_true rfl) (Nat.le_of_ble_eq_true rfl) (Nat.le_of_ble_eq_true rfl) rfl (c_MlacksSort hi _) rfl (fun v2 w2 h21z => ?_)
        obtain ⟨rfl, rfl⟩ := h21z
        refine zr_istore 26 (L2 := [_, _, _, _, _]) rfl rfl (Nat.le_of_ble_eq_true rfl) (by first | exact trivial | exact rfl) rfl ?_
        refine zr_iload 28 rfl rfl rfl ?_
        refine zr_if_eq 34 31 rfl rfl (by decide) (fun c28z => ?_) (fun c28z => ?_)
        · exact absurd c28z (by rw [b, if_pos (by decide)]; decide)
        · refine zr_iload 33 rfl rfl rfl ?_
          refine zr_iret rfl rfl ?_
          refine ⟨?_, rfl⟩
          have e : zitemF sh (nI i) so y = -11 := by
            unfold zitemF
            rw [if_neg (fun q => q ⟨c4z, c13z⟩), nI_clamp (by omega), a]
          rw [e, b, if_pos (by decide)]
      · refine zr_aload_n 19 rfl rfl rfl trivial ?_
        refine zr_iload_n 20 rfl rfl rfl ?_
        refine zr_iload_n 21 rfl rfl rfl ?_
        refine zr_callv 24 (As := [_, _]) (u2 := (0, 0)) rfl rfl rfl rfl rfl rfl rfl (Nat.le_of_ble_eq_true rfl) (Nat.le_of_ble_eq_true rfl) (Nat.le_of_ble_eq_true rfl) rfl (c_MlacksSort hi _) rfl (fun v2 w2 h21z => ?_)
        obtain ⟨rfl, rfl⟩ := h21z
        refine zr_istore 26 (L2 := [_, _, _, _, _]) rfl rfl (Nat.le_of_ble_eq_true rfl) (by first | exact trivial | exact rfl) rfl ?_
        refine zr_iload 28 rfl rfl rfl ?_
        refine zr_if_eq 34 31 rfl rfl (by decide) (fun c28z => ?_) (fun c28z => ?_)
        · have e1 : so2 = so := by
            rw [a2, if_neg (Int32.not_lt.mpr a3.1)] at c28z
            by_cases q : so2 = so
            · exact q
            · rw [if_neg q] at c28z
              exact absurd c28z (by decide)
          refine zr_iload_n 35 rfl rfl rfl ?_
          refine zr_iconst 36 (x := 0) rfl rfl (by decide) ?_
          refine zr_aload_n 37 rfl rfl rfl trivial ?_
          refine zr_getf 40 rfl rfl rfl rfl rfl ?_
          refine zr_iload_n 41 rfl rfl rfl ?_
          refine zr_iald 42 rfl rfl rfl (nI_clamp (by omega)) (vp_in_nI (by omega) (by omega)) ?_
          refine zr_iconst 43 (x := 1) rfl rfl (by decide) ?_
          refine zr_isub 44 rfl rfl ?_
          refine zr_calls 47 (As := [_, _, _]) (u2 := (0, 0)) rfl rfl rfl rfl rfl rfl rfl (Nat.le_of_ble_eq_true rfl) (Nat.le_of_ble_eq_true rfl) (Nat.le_of_ble_eq_true rfl) (c_Min _ _ _) rfl (fun v2 w2 h44z => ?_)
          obtain ⟨rfl, rfl⟩ := h44z
          refine zr_if_eq 65 50 rfl rfl (by decide) (fun c47z => ?_) (fun c47z => ?_)
          · replace c47z := zb_0.mp c47z
            rw [a4, zle1 (by omega)] at c47z
            refine zr_bipush 67 (x := (-12)) rfl rfl (by decide) ?_
            refine zr_iret rfl rfl ?_
            refine ⟨?_, rfl⟩
            have e : zitemF sh (nI i) so y = -12 := by
              unfold zitemF
              rw [if_neg (fun q => q ⟨c4z, c13z⟩), nI_clamp (by omega), a1]
              exact (if_neg (fun q => q e1)).trans (if_neg c47z)
            rw [e]
          · replace c47z := zb_n0.mp c47z
            rw [a4, zle1 (by omega)] at c47z
            obtain ⟨k, hk, rfl⟩ := zperI rfl (by omega) c47z
            refine zr_aload_n 51 rfl rfl rfl trivial ?_
            refine zr_getf 54 rfl rfl rfl rfl rfl ?_
            refine zr_bipush 56 (x := 40) rfl rfl (by decide) ?_
            refine zr_iload_n 57 rfl rfl rfl ?_
            refine zr_imul 58 rfl rfl ?_
            refine zr_iload_n 59 rfl rfl rfl ?_
            refine zr_iadd 60 rfl rfl ?_
            rw [zm40k]
            refine zr_lald 61 rfl rfl rfl (nI_clamp (by omega)) (vp_in_nI (by omega) (by omega)) ?_
            refine zr_l2i 62 rfl rfl ?_
            refine zr_goto 67 rfl (by decide) ?_
            refine zr_iret rfl rfl ?_
            refine ⟨?_, rfl⟩
            have e : zitemF sh (nI i) so (nI k) = (it k).toInt32 := by
              unfold zitemF
              rw [if_neg (fun q => q ⟨c4z, c13z⟩), nI_clamp (by omega), nI_clamp (by omega), a1]
              exact (if_neg (fun q => q e1)).trans (if_pos c47z)
            rw [e, a6 k hk]
        · have e1 : ¬ so2 = so := by
            rw [a2, if_neg (Int32.not_lt.mpr a3.1)] at c28z
            intro q
            exact c28z (if_pos q)
          refine zr_iload 33 rfl rfl rfl ?_
          refine zr_iret rfl rfl ?_
          refine ⟨?_, rfl⟩
          have e : zitemF sh (nI i) so y = -13 := by
            unfold zitemF
            rw [if_neg (fun q => q ⟨c4z, c13z⟩), nI_clamp (by omega), a1]
            exact if_pos e1
          rw [e, a2, if_neg (Int32.not_lt.mpr a3.1), if_neg e1]
    · replace c13z := zb_0.mp c13z
      rw [zr04] at c13z
      refine zr_iconst 17 (x := (-1)) rfl rfl (by decide) ?_
      refine zr_iret rfl rfl ?_
      refine ⟨?_, rfl⟩
      rw [show zitemF sh (nI i) so y = _ from if_pos (fun q => c13z q.2)]
