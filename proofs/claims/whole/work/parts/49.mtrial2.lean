set_option maxRecDepth 20000 in
set_option maxHeartbeats 1000000 in
theorem c_Mworst {S : Nat × (Nat → Int32)} {d n : Nat} {ξ : Nat → Nat → Int32} {ρ : zRho} {K : zCs} (h : zMR ξ 0 K) (hK : zOK K) (x : Int32) : Zc S (d + 9) jX6_worst [.ref 42, .int x] (zWof n ξ ρ) (fun r w => ∃ ξ2, w = zWof n ξ2 ρ ∧ r = some (.int (zper K x (fun i => K.wrs i (30 - K.T) K.T (-3) 121))) ∧ zMR ξ2 0 K ∧ zfm ξ ξ2) := by
  have hd3 := hK.d3
  have hm6 := hK.m6
  have ht60 := hK.t60
  refine Zc_in (q := (6, 0, 1, 1, 7, 0, 0, zk_X6_worst)) rfl (Nat.le_of_ble_eq_true rfl) (L := [_, _, _, _, _, _, _]) rfl ?_
  have key : ∀ (k : Nat) (i : Nat) (j : Nat) (best : Int32) (least : Int32) (cl : Int32) (ξ1 : Nat → Nat → Int32), 60 - j = k → zMR (zu ξ1 49 i (K.p i 4)) 0 K → zfm ξ ξ1 → i < K.M → j ≤ 60 → ((best = -3 ∧ cl = 121) ∨ (0 ≤ best ∧ cl = least)) → zper K (nI i) (fun i => K.wrs i (30 - K.T) K.T (-3) 121) = K.wrs i (30 - j) j best cl →  Zw S (Zc S (d + 8)) 6 false 1 zk_X6_worst (fun r w => ∃ ξ2, w = zWof n ξ2 ρ ∧ r = some (.int (zper K (nI i) (fun i => K.wrs i (30 - K.T) K.T (-3) 121))) ∧ zMR ξ2 0 K ∧ zfm ξ ξ2) (31, [some (.ref 42), some (.int (nI i)), some (.int (K.p i 4)), some (.int best), some (.int least), some (.int (nI j)), none], [], (0, 0), zWof n ξ1 ρ) := by
    intro k
    induction k using Nat.strongRecOn with
    | ind k ih =>
      intro i j best least cl ξ1 hk m1 f1 hi hj hc ee
      refine zr_iload 33 rfl rfl rfl ?_
      refine zr_bipush 35 (x := 30) rfl rfl (by decide) ?_
      refine zr_icmp_ge 90 38 rfl rfl (by decide) (fun c35z => ?_) (fun c35z => ?_)
      · rw [show (30 : Int32) = nI 30 from rfl, nI_leI (by omega) (by omega)] at c35z
        refine zr_aload_n 91 rfl rfl rfl trivial ?_
        refine zr_getf 94 rfl rfl rfl rfl rfl ?_
        refine zr_iload_n 95 rfl rfl rfl ?_
        refine zr_iload_n 96 rfl rfl rfl ?_
        refine zr_iast 97 rfl rfl rfl (nI_clamp (by omega)) (vp_in_nI (by omega) (by omega)) (zW_set rfl) ?_
        refine zr_iload_n 98 rfl rfl rfl ?_
        refine zr_iret rfl rfl ?_
        exact ⟨_, rfl, by rw [ee, show 30 - j = 0 by omega]; rfl, m1, f1.u 49 i _ (by omega)⟩
      · rw [show (30 : Int32) = nI 30 from rfl, nI_leI (by omega) (by omega)] at c35z
        rw [show 30 - j = 30 - (j + 1) + 1 by omega, zCs.wrs] at ee
        refine zr_iload_n 39 rfl rfl rfl ?_
        refine zr_iload 41 rfl rfl rfl ?_
        refine zr_ishr 42 rfl rfl ?_
        refine zr_iconst 43 (x := 1) rfl rfl (by decide) ?_
        refine zr_iand 44 rfl rfl ?_
        refine zr_if_ne 84 47 rfl rfl (by decide) (fun c44z => ?_) (fun c44z => ?_)
        · rw [zbit1n] at c44z
          rw [if_pos c44z] at ee
          refine zr_iinc 87 (c0 := 1) (L2 := [_, _, _, _, _, _, _]) rfl rfl rfl (by first | exact trivial | exact rfl) (by decide) rfl ?_
          refine zr_goto 31 rfl (by decide) ?_
          rw [nI_1]
          exact ih _ (by omega) i (j + 1) best least cl ξ1 rfl m1 f1 hi (by omega) hc ee
        · rw [if_neg (fun q => absurd (c44z.symm.trans q) (by decide))] at ee
          have m2 : zMR (zu ξ1 49 i (K.p i 4 ||| (1 : Int32) <<< (nI j &&& 31))) 0 (K.wil i j) := by
            have q := m1.u49 (i := i) (K.p i 4 ||| (1 : Int32) <<< (nI j &&& 31))
            rw [zuu] at q
            exact q
          refine zr_aload_n 48 rfl rfl rfl trivial ?_
          refine zr_getf 51 rfl rfl rfl rfl rfl ?_
          refine zr_iload_n 52 rfl rfl rfl ?_
          refine zr_iload_n 53 rfl rfl rfl ?_
          refine zr_iconst 54 (x := 1) rfl rfl (by decide) ?_
          refine zr_iload 56 rfl rfl rfl ?_
          refine zr_ishl 57 rfl rfl ?_
          refine zr_ior 58 rfl rfl ?_
          refine zr_iast 59 rfl rfl rfl (nI_clamp (by omega)) (vp_in_nI (by omega) (by omega)) (zW_set rfl) ?_
          refine zr_aload_n 60 rfl rfl rfl trivial ?_
          refine zr_iload_n 61 rfl rfl rfl ?_
          refine zr_callv 64 (As := [_]) (u2 := (0, 0)) rfl rfl rfl rfl rfl rfl rfl (Nat.le_of_ble_eq_true rfl) (Nat.le_of_ble_eq_true rfl) (Nat.le_of_ble_eq_true rfl) rfl (c_MmarkThen m2 (hK.sp i (fun _ => (hK.hp i hi).ill _)) hi) rfl (fun v2 w2 h61z => ?_)
          obtain ⟨rfl, ξ2, rfl, f2⟩ := h61z
          have m3 : zMR (zu ξ2 49 i (K.p i 4)) 0 K := by
            have q := (f2.mr m2 hm6).u49 (i := i) (K.p i 4)
            rw [show (K.wil i j).sp i 4 (K.p i 4) = K from zsp_back K i 4 _] at q
            exact q
          have g2 := (f1.u 49 i (K.p i 4 ||| (1 : Int32) <<< (nI j &&& 31)) (by omega)).tr f2.fm
          refine zr_istore 66 (L2 := [_, _, _, _, _, _, _]) rfl rfl (Nat.le_of_ble_eq_true rfl) (by first | exact trivial | exact rfl) rfl ?_
          refine zr_iload_n 67 rfl rfl rfl ?_
          refine zr_if_lt 77 70 rfl rfl (by decide) (fun c67z => ?_) (fun c67z => ?_)
          · have hv : ((K.wil i j).go 60).mk' i < cl := by
              rcases hc with ⟨_, q⟩ | ⟨q, _⟩
              · rw [q]
                exact Int32.lt_of_le_of_lt (zmk_le120 _ _) (by decide)
              · exact absurd q (Int32.not_le.mpr c67z)
            refine zr_iload 79 rfl rfl rfl ?_
            refine zr_istore_n 80 (L2 := [_, _, _, _, _, _, _]) rfl rfl (Nat.le_of_ble_eq_true rfl) (by first | exact trivial | exact rfl) rfl ?_
            refine zr_iload 82 rfl rfl rfl ?_
            refine zr_istore 84 (L2 := [_, _, _, _, _, _, _]) rfl rfl (Nat.le_of_ble_eq_true rfl) (by first | exact trivial | exact rfl) rfl ?_
            refine zr_iinc 87 (c0 := 1) (L2 := [_, _, _, _, _, _, _]) rfl rfl rfl (by first | exact trivial | exact rfl) (by decide) rfl ?_
            refine zr_goto 31 rfl (by decide) ?_
            rw [nI_1]
            refine zs_forget (L' := [_, _, _, _, _, _, none]) (zsub_s (zsub_s (zsub_s (zsub_s (zsub_s (zsub_s (zsub_n zsub_0))))))) ?_
            exact ih _ (by omega) i (j + 1) _ _ _ ξ2 rfl m3 g2 hi (by omega) (Or.inr ⟨nI_pos' (by omega), rfl⟩) (by rw [ee, if_pos hv])
          · have hcl : cl = least := by
              rcases hc with ⟨q, _⟩ | ⟨_, q⟩
              · exact absurd (show best < 0 by rw [q]; decide) c67z
              · exact q
            refine zr_iload 72 rfl rfl rfl ?_
            refine zr_iload 74 rfl rfl rfl ?_
            refine zr_icmp_ge 84 77 rfl rfl (by decide) (fun c74z => ?_) (fun c74z => ?_)
            · refine zr_iinc 87 (c0 := 1) (L2 := [_, _, _, _, _, _, _]) rfl rfl rfl (by first | exact trivial | exact rfl) (by decide) rfl ?_
              refine zr_goto 31 rfl (by decide) ?_
              rw [nI_1]
              refine zs_forget (L' := [_, _, _, _, _, _, none]) (zsub_s (zsub_s (zsub_s (zsub_s (zsub_s (zsub_s (zsub_n zsub_0))))))) ?_
              exact ih _ (by omega) i (j + 1) best least cl ξ2 rfl m3 g2 hi (by omega) hc (by rw [ee, if_neg (by rw [hcl]; exact Int32.not_lt.mpr c74z)])
            · refine zr_iload 79 rfl rfl rfl ?_
              refine zr_istore_n 80 (L2 := [_, _, _, _, _, _, _]) rfl rfl (Nat.le_of_ble_eq_true rfl) (by first | exact trivial | exact rfl) rfl ?_
              refine zr_iload 82 rfl rfl rfl ?_
              refine zr_istore 84 (L2 := [_, _, _, _, _, _, _]) rfl rfl (Nat.le_of_ble_eq_true rfl) (by first | exact trivial | exact rfl) rfl ?_
              refine zr_iinc 87 (c0 := 1) (L2 := [_, _, _, _, _, _, _]) rfl rfl rfl (by first | exact trivial | exact rfl) (by decide) rfl ?_
              refine zr_goto 31 rfl (by decide) ?_
              rw [nI_1]
              refine zs_forget (L' := [_, _, _, _, _, _, none]) (zsub_s (zsub_s (zsub_s (zsub_s (zsub_s (zsub_s (zsub_n zsub_0))))))) ?_
              exact ih _ (by omega) i (j + 1) _ _ _ ξ2 rfl m3 g2 hi (by omega) (Or.inr ⟨nI_pos' (by omega), rfl⟩) (by rw [ee, if_pos (by rw [hcl]; exact Int32.not_le.mp c74z)])
  refine zr_aload_n 1 rfl rfl rfl trivial ?_
  refine zr_iload_n 2 rfl rfl rfl ?_
  refine zr_callv 5 (As := [_]) (u2 := (0, 0)) rfl rfl rfl rfl rfl rfl rfl (Nat.le_of_ble_eq_true rfl) (Nat.le_of_ble_eq_true rfl) (Nat.le_of_ble_eq_true rfl) rfl (c_MisPerson h hK _) rfl (fun v2 w2 h2z => ?_)
  obtain ⟨rfl, rfl⟩ := h2z
  refine zr_if_ne 10 8 rfl rfl (by decide) (fun c5z => ?_) (fun c5z => ?_)
  · replace c5z := zb_n0.mp c5z
    obtain ⟨i, hi, rfl⟩ := zperI rfl (by omega) c5z
    refine zr_aload_n 11 rfl rfl rfl trivial ?_
    refine zr_getf 14 rfl rfl rfl rfl rfl ?_
    refine zr_iload_n 15 rfl rfl rfl ?_
    refine zr_iald 16 rfl rfl rfl (nI_clamp (by omega)) (vp_in_nI (by omega) (by omega)) ?_
    rw [h.k4 hi]
    refine zr_istore_n 17 (L2 := [_, _, _, _, _, _, _]) rfl rfl (Nat.le_of_ble_eq_true rfl) (by first | exact trivial | exact rfl) rfl ?_
    refine zr_bipush 19 (x := (-3)) rfl rfl (by decide) ?_
    refine zr_istore_n 20 (L2 := [_, _, _, _, _, _, _]) rfl rfl (Nat.le_of_ble_eq_true rfl) (by first | exact trivial | exact rfl) rfl ?_
    refine zr_iconst 21 (x := 0) rfl rfl (by decide) ?_
    refine zr_istore 23 (L2 := [_, _, _, _, _, _, _]) rfl rfl (Nat.le_of_ble_eq_true rfl) (by first | exact trivial | exact rfl) rfl ?_
    refine zr_aload_n 24 rfl rfl rfl trivial ?_
    refine zr_getf 27 rfl rfl rfl rfl rfl ?_
    refine zr_iconst 28 (x := 0) rfl rfl (by decide) ?_
    refine zr_iald 29 (i := 0) rfl rfl rfl (by decide) (by unfold vp_in; decide) ?_
    refine zr_istore 31 (L2 := [_, _, _, _, _, _, _]) rfl rfl (Nat.le_of_ble_eq_true rfl) (by first | exact trivial | exact rfl) rfl ?_
    rw [h.ht]
    refine key _ i K.T (-3) 0 121 ξ rfl ?_ (zfm.rf _) hi (by omega) (Or.inl ⟨rfl, rfl⟩) (zper_in hm6 hi _)
    have q := (h.u49 (i := i) (K.p i 4)).u49 (i := i) (K.p i 4)
    rw [zuu, zsp_back] at q
    exact q
  · replace c5z := zb_0.mp c5z
    refine zr_iconst 9 (x := (-1)) rfl rfl (by decide) ?_
    refine zr_iret rfl rfl ?_
    exact ⟨ξ, rfl, by rw [zper_out rfl _ c5z], h, zfm.rf _⟩
set_option maxRecDepth 20000 in
set_option maxHeartbeats 1000000 in
theorem c_Msooner {S : Nat × (Nat → Int32)} {d n : Nat} {ξ : Nat → Nat → Int32} {ρ : zRho} {K : zCs} (h : zMR ξ 0 K) (hK : zOK K) : Zc S (d + 9) jX6_sooner [.ref 42] (zWof n ξ ρ) (fun r w => ∃ ξ2, w = zWof n ξ2 ρ ∧ r = some (.int (K.soon)) ∧ zMR ξ2 0 K ∧ zfm ξ ξ2) := by
  have hd3 := hK.d3
  have hm6 := hK.m6
  have ht60 := hK.t60
  refine Zc_in (q := (6, 0, 1, 0, 6, 0, 0, zk_X6_sooner)) rfl (Nat.le_of_ble_eq_true rfl) (L := [_, _, _, _, _, _]) rfl ?_
  have hs0 : 1 ≤ K.soo0 ∧ K.soo0 ≤ 50 ∧ ∀ i, i < K.D → (K.dd i).toInt < (K.soo0 : Int) := by
    have hl0 := hK.l0
    unfold zCs.soo0
    by_cases q : 0 < K.D
    · rw [if_pos q]
      have a := hK.hdd (K.D - 1) (by omega)
      refine ⟨by omega, by omega, fun i hi => ?_⟩
      have b := zsortD hK.hds (K.D - 1) i (by omega) (by omega)
      omega
    · rw [if_neg q]
      exact ⟨by omega, by omega, fun i hi => by omega⟩
  have key : ∀ (k : Nat) (j : Nat) (fo : Int32) (ξ1 : Nat → Nat → Int32), j = k → zMR (zu ξ1 43 0 (K.law 0)) 0 K → zfm ξ ξ1 → j ≤ 50 → K.soo0 ≤ j + 1 → fo = zfirstF (fun v => ((K.slaw 0 (nI v)).go 60).lts &&& ((K.go 60).lts ^^^ -1) = 0) (50 - j) (j + 1) →  Zw S (Zc S (d + 8)) 6 false 1 zk_X6_sooner (fun r w => ∃ ξ2, w = zWof n ξ2 ρ ∧ r = some (.int (K.soon)) ∧ zMR ξ2 0 K ∧ zfm ξ ξ2) (54, [some (.ref 42), some (.int (K.go 60).lts), some (.int (K.law 0)), some (.int fo), some (.int (nI (K.soo0 - 1))), some (.int (nI j))], [], (0, 0), zWof n ξ1 ρ) := by
    intro k
    induction k using Nat.strongRecOn with
    | ind k ih =>
      intro j fo ξ1 hk m1 f1 hj hj2 ef
      refine zr_iload 56 rfl rfl rfl ?_
      refine zr_iload 58 rfl rfl rfl ?_
      refine zr_icmp_le 93 61 rfl rfl (by decide) (fun c58z => ?_) (fun c58z => ?_)
      · rw [nI_leI (by omega) (by omega)] at c58z
        refine zr_aload_n 94 rfl rfl rfl trivial ?_
        refine zr_getf 97 rfl rfl rfl rfl rfl ?_
        refine zr_iconst 98 (x := 0) rfl rfl (by decide) ?_
        refine zr_iload_n 99 rfl rfl rfl ?_
        refine zr_iast 100 (i := 0) rfl rfl rfl (by decide) (by unfold vp_in; decide) (zW_set rfl) ?_
        refine zr_iload_n 101 rfl rfl rfl ?_
        refine zr_iret rfl rfl ?_
        refine ⟨_, rfl, ?_, m1, f1.u 43 0 _ (by decide)⟩
        rw [ef, zCs.soon, show 51 - K.soo0 = 50 - j by omega, show K.soo0 = j + 1 by omega]
      · rw [nI_leI (by omega) (by omega)] at c58z
        obtain ⟨j2, rfl⟩ : ∃ z, j = z + 1 := ⟨j - 1, by omega⟩
        have m2 := m1.slaw 0 (nI (j2 + 1))
        rw [zuu] at m2
        have hK2 : zOK (K.slaw 0 (nI (j2 + 1))) := hK.due (by rw [nI_toInt (by omega)]; omega) (fun i hi => by rw [nI_toInt (by omega)]; have := hs0.2.2 i hi; omega)
        refine zr_aload_n 62 rfl rfl rfl trivial ?_
        refine zr_getf 65 rfl rfl rfl rfl rfl ?_
        refine zr_iconst 66 (x := 0) rfl rfl (by decide) ?_
        refine zr_iload 68 rfl rfl rfl ?_
        refine zr_iast 69 (i := 0) rfl rfl rfl (by decide) (by unfold vp_in; decide) (zW_set rfl) ?_
        refine zr_aload_n 70 rfl rfl rfl trivial ?_
        refine zr_callv 73 (As := []) (u2 := (0, 0)) rfl rfl rfl rfl rfl rfl rfl (Nat.le_of_ble_eq_true rfl) (Nat.le_of_ble_eq_true rfl) (Nat.le_of_ble_eq_true rfl) rfl (c_Mlate m2 hK2) rfl (fun v2 w2 h70z => ?_)
        obtain ⟨ξ2, rfl, rfl, f2⟩ := h70z
        have m3 := (f2.mr m2 hm6).slaw 0 (K.law 0)
        rw [zslaw_back] at m3
        have g2 := (f1.u 43 0 (nI (j2 + 1)) (by decide)).tr f2.fm
        refine zr_iload_n 74 rfl rfl rfl ?_
        refine zr_iconst 75 (x := (-1)) rfl rfl (by decide) ?_
        refine zr_ixor 76 rfl rfl ?_
        refine zr_iand 77 rfl rfl ?_
        refine zr_if_ne 85 80 rfl rfl (by decide) (fun c77z => ?_) (fun c77z => ?_)
        · refine zr_iload_n 86 rfl rfl rfl ?_
          refine zr_istore_n 87 (L2 := [_, _, _, _, _, _]) rfl rfl (Nat.le_of_ble_eq_true rfl) (by first | exact trivial | exact rfl) rfl ?_
          refine zr_iinc 90 (c0 := (-1)) (L2 := [_, _, _, _, _, _]) rfl rfl rfl (by first | exact trivial | exact rfl) (by decide) rfl ?_
          refine zr_goto 54 rfl (by decide) ?_
          rw [pk_m1]
          refine ih _ (by omega) j2 _ ξ2 rfl m3 g2 (by omega) (by omega) ?_
          rw [show 50 - j2 = 50 - (j2 + 1) + 1 by omega, zfirstF]
          rw [if_neg c77z, ← ef]
        · refine zr_iload 82 rfl rfl rfl ?_
          refine zr_goto 86 rfl (by decide) ?_
          refine zr_istore_n 87 (L2 := [_, _, _, _, _, _]) rfl rfl (Nat.le_of_ble_eq_true rfl) (by first | exact trivial | exact rfl) rfl ?_
          refine zr_iinc 90 (c0 := (-1)) (L2 := [_, _, _, _, _, _]) rfl rfl rfl (by first | exact trivial | exact rfl) (by decide) rfl ?_
          refine zr_goto 54 rfl (by decide) ?_
          rw [pk_m1]
          refine ih _ (by omega) j2 _ ξ2 rfl m3 g2 (by omega) (by omega) ?_
          rw [show 50 - j2 = 50 - (j2 + 1) + 1 by omega, zfirstF]
          rw [if_pos c77z]
  refine zr_aload_n 1 rfl rfl rfl trivial ?_
  refine zr_callv 4 (As := []) (u2 := (0, 0)) rfl rfl rfl rfl rfl rfl rfl (Nat.le_of_ble_eq_true rfl) (Nat.le_of_ble_eq_true rfl) (Nat.le_of_ble_eq_true rfl) rfl (c_Mlate h hK) rfl (fun v2 w2 h1z => ?_)
  obtain ⟨ξ0, rfl, rfl, f0⟩ := h1z
  have h0 := f0.mr h hm6
  have m0 : zMR (zu ξ0 43 0 (K.law 0)) 0 K := by
    have q := h0.slaw 0 (K.law 0)
    rw [zslaw_same] at q
    exact q
  refine zr_istore_n 5 (L2 := [_, _, _, _, _, _]) rfl rfl (Nat.le_of_ble_eq_true rfl) (by first | exact trivial | exact rfl) rfl ?_
  refine zr_aload_n 6 rfl rfl rfl trivial ?_
  refine zr_getf 9 rfl rfl rfl rfl rfl ?_
  refine zr_iconst 10 (x := 0) rfl rfl (by decide) ?_
  refine zr_iald 11 (i := 0) rfl rfl rfl (by decide) (by unfold vp_in; decide) ?_
  rw [h0.hl 0 (by decide)]
  refine zr_istore_n 12 (L2 := [_, _, _, _, _, _]) rfl rfl (Nat.le_of_ble_eq_true rfl) (by first | exact trivial | exact rfl) rfl ?_
  refine zr_bipush 14 (x := (-3)) rfl rfl (by decide) ?_
  refine zr_istore_n 15 (L2 := [_, _, _, _, _, _]) rfl rfl (Nat.le_of_ble_eq_true rfl) (by first | exact trivial | exact rfl) rfl ?_
  refine zr_aload_n 16 rfl rfl rfl trivial ?_
  refine zr_getf 19 rfl rfl rfl rfl rfl ?_
  refine zr_if_le 47 22 rfl rfl (by decide) (fun c19z => ?_) (fun c19z => ?_)
  · rw [h0.hd] at c19z
    have hD : K.D = 0 := Nat.eq_zero_of_not_pos (fun q => nI_nle q (by omega) c19z)
    refine zr_iconst 48 (x := 0) rfl rfl (by decide) ?_
    refine zr_istore 50 (L2 := [_, _, _, _, _, _]) rfl rfl (Nat.le_of_ble_eq_true rfl) (by first | exact trivial | exact rfl) rfl ?_
    refine zr_bipush 52 (x := 50) rfl rfl (by decide) ?_
    refine zr_istore 54 (L2 := [_, _, _, _, _, _]) rfl rfl (Nat.le_of_ble_eq_true rfl) (by first | exact trivial | exact rfl) rfl ?_
    have e0 : K.soo0 = 1 := by
      unfold zCs.soo0
      rw [if_neg (by omega)]
    have e1 : (0 : Int32) = nI (K.soo0 - 1) := by rw [e0]; rfl
    rw [e1]
    exact key _ 50 (-3) ξ0 rfl m0 f0.fm (Nat.le_refl _) (by omega) rfl
  · rw [h0.hd] at c19z
    have hD : 0 < K.D := Nat.pos_of_ne_zero (fun q => c19z (by rw [q]; decide))
    obtain ⟨D2, hD2⟩ : ∃ z, K.D = z + 1 := ⟨K.D - 1, by omega⟩
    refine zr_aload_n 23 rfl rfl rfl trivial ?_
    refine zr_getf 26 rfl rfl rfl rfl rfl ?_
    refine zr_aload_n 27 rfl rfl rfl trivial ?_
    refine zr_getf 30 rfl rfl rfl rfl rfl ?_
    refine zr_if_le 42 33 rfl rfl (by decide) (fun c30z => ?_) (fun c30z => ?_)
    · rw [h0.hd] at c30z
      exact absurd c30z c19z
    · refine zr_aload_n 34 rfl rfl rfl trivial ?_
      refine zr_getf 37 rfl rfl rfl rfl rfl ?_
      refine zr_iconst 38 (x := 1) rfl rfl (by decide) ?_
      refine zr_isub 39 rfl rfl ?_
      rw [h0.hd, hD2, nI_pred]
      refine zr_goto 43 rfl (by decide) ?_
      refine zr_iald 44 rfl rfl rfl (nI_clamp (by omega)) (vp_in_nI (by omega) (by omega)) ?_
      refine zr_goto 48 rfl (by decide) ?_
      refine zr_istore 50 (L2 := [_, _, _, _, _, _]) rfl rfl (Nat.le_of_ble_eq_true rfl) (by first | exact trivial | exact rfl) rfl ?_
      refine zr_bipush 52 (x := 50) rfl rfl (by decide) ?_
      refine zr_istore 54 (L2 := [_, _, _, _, _, _]) rfl rfl (Nat.le_of_ble_eq_true rfl) (by first | exact trivial | exact rfl) rfl ?_
      have e0 : K.soo0 = (K.dd D2).toInt.toNat + 1 := by
        unfold zCs.soo0
        rw [if_pos hD, hD2]
        rfl
      have e1 : ξ0 44 D2 = nI (K.soo0 - 1) := by
        rw [e0, show ξ0 44 D2 = K.dd D2 from h0.hdd D2 (by omega)]
        have := hK.hdd D2 (by omega)
        have := hK.l0
        exact Int32.toInt_inj.mp (by rw [nI_toInt (by omega)]; omega)
      rw [e1]
      exact key _ 50 (-3) ξ0 rfl m0 f0.fm (Nat.le_refl _) (by omega) rfl
set_option maxRecDepth 20000 in
set_option maxHeartbeats 1000000 in
theorem c_MbestDate {S : Nat × (Nat → Int32)} {d n : Nat} {ξ : Nat → Nat → Int32} {ρ : zRho} {K : zCs} (h : zMR ξ 0 K) (hK : zOK K) : Zc S (d + 9) jX6_bestDate [.ref 42] (zWof n ξ ρ) (fun r w => ∃ ξ2, w = zWof n ξ2 ρ ∧ r = some (.int (K.best)) ∧ zMR ξ2 0 K ∧ zfm ξ ξ2) := by
  have hd3 := hK.d3
  have hm6 := hK.m6
  have ht60 := hK.t60
  refine Zc_in (q := (6, 0, 1, 0, 6, 0, 0, zk_X6_bestDate)) rfl (Nat.le_of_ble_eq_true rfl) (L := [_, _, _, _, _, _]) rfl ?_
  obtain ⟨hU, hU1, hU2⟩ := hK.hU
  have key : ∀ (k : Nat) (j : Nat) (best : Int32) (most : Int32) (ξ1 : Nat → Nat → Int32), 60 - j = k → zMR ξ1 0 K → zfm ξ ξ1 → j ≤ 60 → ((K.D < 3 ∧ K.best = K.bst (K.U - j) j best most ∧ ((best = -3 ∧ most = -1) ∨ 0 ≤ best)) ∨ (K.D = 3 ∧ ((best = -3 ∧ K.best = K.bst (K.U - j) j (-3) (-1)) ∨ (0 ≤ best ∧ K.best = -2)))) →  Zw S (Zc S (d + 8)) 6 false 1 zk_X6_bestDate (fun r w => ∃ ξ2, w = zWof n ξ2 ρ ∧ r = some (.int (K.best)) ∧ zMR ξ2 0 K ∧ zfm ξ ξ2) (12, [some (.ref 42), some (.int best), some (.int most), some (.int (nI j)), none, none], [], (0, 0), zWof n ξ1 ρ) := by
    intro k
    induction k using Nat.strongRecOn with
    | ind k ih =>
      intro j best most ξ1 hk m1 f1 hj eb0
      refine zr_iload_n 13 rfl rfl rfl ?_
      refine zr_aload_n 14 rfl rfl rfl trivial ?_
      refine zr_getf 17 rfl rfl rfl rfl rfl ?_
      refine zr_iconst 18 (x := 0) rfl rfl (by decide) ?_
      refine zr_iald 19 (i := 0) rfl rfl rfl (by decide) (by unfold vp_in; decide) ?_
      refine zr_icmp_ge 118 22 rfl rfl (by decide) (fun c19z => ?_) (fun c19z => ?_)
      · rw [show ξ1 43 0 = nI K.U from (m1.hl 0 (by decide)).trans hU, nI_leI (by omega) (by omega)] at c19z
        have bz : ∀ a b, K.bst (K.U - j) j a b = a := fun a b => by rw [show K.U - j = 0 by omega, zCs.bst]
        refine zr_iload_n 119 rfl rfl rfl ?_
        refine zr_if_lt 135 122 rfl rfl (by decide) (fun c119z => ?_) (fun c119z => ?_)
        · refine zr_iload_n 136 rfl rfl rfl ?_
          refine zr_iret rfl rfl ?_
          refine ⟨ξ1, rfl, ?_, m1, f1⟩
          rcases eb0 with ⟨_, q, _⟩ | ⟨_, ⟨e, q⟩ | ⟨q, _⟩⟩
          · rw [q, bz]
          · rw [q, bz, e]
          · exact absurd c119z (Int32.not_lt.mpr q)
        · refine zr_aload_n 123 rfl rfl rfl trivial ?_
          refine zr_getf 126 rfl rfl rfl rfl rfl ?_
          refine zr_iconst 127 (x := 3) rfl rfl (by decide) ?_
          refine zr_icmp_ne 135 130 rfl rfl (by decide) (fun c127z => ?_) (fun c127z => ?_)
          · refine zr_iload_n 136 rfl rfl rfl ?_
            refine zr_iret rfl rfl ?_
            refine ⟨ξ1, rfl, ?_, m1, f1⟩
            have hD : ¬ K.D = 3 := fun q => c127z (by rw [m1.hd, q]; rfl)
            rcases eb0 with ⟨_, q, _⟩ | ⟨q, _⟩
            · rw [q, bz]
            · exact absurd q hD
          · refine zr_bipush 132 (x := (-2)) rfl rfl (by decide) ?_
            refine zr_goto 136 rfl (by decide) ?_
            refine zr_iret rfl rfl ?_
            refine ⟨ξ1, rfl, ?_, m1, f1⟩
            have hD : K.D = 3 := (nI_eq (b := 3) (by omega) (by decide)).mp (m1.hd.symm.trans c127z)
            rcases eb0 with ⟨q, _⟩ | ⟨_, ⟨e, q⟩ | ⟨_, q⟩⟩
            · omega
            · exact absurd (show best < 0 by rw [e]; decide) c119z
            · rw [q]
      · rw [show ξ1 43 0 = nI K.U from (m1.hl 0 (by decide)).trans hU, nI_leI (by omega) (by omega)] at c19z
        have bs : ∀ a b, K.bst (K.U - j) j a b = if K.has (nI j) then K.bst (K.U - (j + 1)) (j + 1) a b else if 3 ≤ K.D then -2 else if b < ((K.addD (nI j) 50).go 60).sum then K.bst (K.U - (j + 1)) (j + 1) (nI j) ((K.addD (nI j) 50).go 60).sum else K.bst (K.U - (j + 1)) (j + 1) a b := fun a b => by rw [show K.U - j = K.U - (j + 1) + 1 by omega, zCs.bst]
        simp only [bs] at eb0
        refine zr_aload_n 23 rfl rfl rfl trivial ?_
        refine zr_iload_n 24 rfl rfl rfl ?_
        refine zr_callv 27 (As := [_]) (u2 := (0, 0)) rfl rfl rfl rfl rfl rfl rfl (Nat.le_of_ble_eq_true rfl) (Nat.le_of_ble_eq_true rfl) (Nat.le_of_ble_eq_true rfl) rfl (c_MhasDate m1.hd hd3 _) rfl (fun v2 w2 h24z => ?_)
        obtain ⟨rfl, rfl⟩ := h24z
        refine zr_if_ne 112 30 rfl rfl (by decide) (fun c27z => ?_) (fun c27z => ?_)
        · replace c27z := zb_n0.mp c27z
          rw [m1.hasD] at c27z
          simp only [if_pos c27z] at eb0
          refine zr_iinc 115 (c0 := 1) (L2 := [_, _, _, _, _, _]) rfl rfl rfl (by first | exact trivial | exact rfl) (by decide) rfl ?_
          refine zr_goto 12 rfl (by decide) ?_
          rw [nI_1]
          exact ih _ (by omega) (j + 1) best most ξ1 rfl m1 f1 (by omega) eb0
        · replace c27z := zb_0.mp c27z
          rw [m1.hasD] at c27z
          simp only [if_neg c27z] at eb0
          refine zr_iload_n 31 rfl rfl rfl ?_
          refine zr_if_ge 38 34 rfl rfl (by decide) (fun c31z => ?_) (fun c31z => ?_)
          · refine zr_iload_n 39 rfl rfl rfl ?_
            refine zr_istore_n 40 (L2 := [_, _, _, _, _, _]) rfl rfl (Nat.le_of_ble_eq_true rfl) (by first | exact trivial | exact rfl) rfl ?_
            refine zr_aload_n 41 rfl rfl rfl trivial ?_
            refine zr_getf 44 rfl rfl rfl rfl rfl ?_
            refine zr_iconst 45 (x := 3) rfl rfl (by decide) ?_
            refine zr_icmp_ge 112 48 rfl rfl (by decide) (fun c45z => ?_) (fun c45z => ?_)
            · rw [m1.hd, show (3 : Int32) = nI 3 from rfl, nI_leI (by omega) (by omega)] at c45z
              refine zr_iinc 115 (c0 := 1) (L2 := [_, _, _, _, _, _]) rfl rfl rfl (by first | exact trivial | exact rfl) (by decide) rfl ?_
              refine zr_goto 12 rfl (by decide) ?_
              rw [nI_1]
              refine ih _ (by omega) (j + 1) best most ξ1 rfl m1 f1 (by omega) (Or.inr ⟨by omega, Or.inr ⟨c31z, ?_⟩⟩)
              rcases eb0 with ⟨q, _⟩ | ⟨_, ⟨e, q⟩ | ⟨e, q⟩⟩
              · omega
              · exact absurd c31z (by rw [e]; decide)
              · exact q
            · rw [m1.hd, show (3 : Int32) = nI 3 from rfl, nI_leI (by omega) (by omega)] at c45z
              have hD3 : K.D < 3 := by omega
              have ebq : (K.best = if most < ((K.addD (nI j) 50).go 60).sum then K.bst (K.U - (j + 1)) (j + 1) (nI j) ((K.addD (nI j) 50).go 60).sum else K.bst (K.U - (j + 1)) (j + 1) best most) ∧ ((best = -3 ∧ most = -1) ∨ 0 ≤ best) := by
                rcases eb0 with ⟨_, q1, q2⟩ | ⟨q, _⟩
                · rw [if_neg (by omega)] at q1
                  exact ⟨q1, q2⟩
                · omega
              obtain ⟨eb, hbm⟩ := ebq
              refine zr_aload_n 49 rfl rfl rfl trivial ?_
              refine zr_iload_n 50 rfl rfl rfl ?_
              refine zr_bipush 52 (x := 50) rfl rfl (by decide) ?_
              refine zr_callv 55 (As := [_, _]) (u2 := (0, 0)) rfl rfl rfl rfl rfl rfl rfl (Nat.le_of_ble_eq_true rfl) (Nat.le_of_ble_eq_true rfl) (Nat.le_of_ble_eq_true rfl) rfl (k_MaddDate m1 hD3 _ _) rfl (fun v2 w2 h52z => ?_)
              obtain ⟨rfl, ξ2, rfl, m2, fk2, fa2⟩ := h52z
              have hKa := hK.addD hD3 (day := nI j) (part := 50) (by rw [nI_toInt (by omega)]; omega) (by rw [hU, nI_toInt (by omega), nI_toInt (by omega)]; omega) c27z (by decide)
              refine zr_aload_n 56 rfl rfl rfl trivial ?_
              refine zr_callv 59 (As := []) (u2 := (0, 0)) rfl rfl rfl rfl rfl rfl rfl (Nat.le_of_ble_eq_true rfl) (Nat.le_of_ble_eq_true rfl) (Nat.le_of_ble_eq_true rfl) rfl (c_Mmarks m2 hKa) rfl (fun v2 w2 h56z => ?_)
              obtain ⟨ξ3, rfl, rfl, f3⟩ := h56z
              have m3 := f3.mr m2 hm6
              have g3 : zfm ξ ξ3 := (f1.tr ⟨fun a q1 _ => fa2 a (by omega) (by omega) (by omega), fun k q => fk2 k (by omega)⟩).tr f3.fm
              obtain ⟨pq, p1, p2, p3, p4⟩ := zaddcut c27z
              have vp := zsum_pos ((K.addD (nI j) 50).go 60) hm6
              have hnb2 : ((K.addD (nI j) 50).go 60).sum ≤ most → K.bst (K.U - (j + 1)) (j + 1) best most = K.bst (K.U - (j + 1)) (j + 1) best most := fun _ => rfl
              have hnb : 0 ≤ best := c31z
              have key2 : ∀ (k2 : Nat) (q : Nat), pq - q = k2 → q ≤ pq →  Zw S (Zc S (d + 8)) 6 false 1 zk_X6_bestDate (fun r w => ∃ ξ2, w = zWof n ξ2 ρ ∧ r = some (.int (K.best)) ∧ zMR ξ2 0 K ∧ zfm ξ ξ2) (64, [some (.ref 42), some (.int best), some (.int most), some (.int (nI j)), some (.int (((K.addD (nI j) 50).go 60).sum)), some (.int (nI q))], [], (0, 0), zWof n ξ3 ρ) := by
                intro k2
                induction k2 using Nat.strongRecOn with
                | ind k2 ih2 =>
                  intro q hk hq
                  refine zr_aload_n 65 rfl rfl rfl trivial ?_
                  refine zr_getf 68 rfl rfl rfl rfl rfl ?_
                  refine zr_iload 70 rfl rfl rfl ?_
                  refine zr_iald 71 rfl rfl rfl (nI_clamp (by omega)) (vp_in_nI (by omega) (by omega)) ?_
                  refine zr_iload_n 72 rfl rfl rfl ?_
                  refine zr_icmp_eq 81 75 rfl rfl (by decide) (fun c72z => ?_) (fun c72z => ?_)
                  · have eq : q = pq := by
                      rcases Nat.lt_or_ge q pq with z | z
                      · exact absurd ((m3.hdd q (show q < K.D + 1 by omega)).symm.trans c72z) (p3 q z)
                      · omega
                    subst eq
                    refine zr_aload_n 82 rfl rfl rfl trivial ?_
                    refine zr_iload 84 rfl rfl rfl ?_
                    refine zr_callv 87 (As := [_]) (u2 := (0, 0)) rfl rfl rfl rfl rfl rfl rfl (Nat.le_of_ble_eq_true rfl) (Nat.le_of_ble_eq_true rfl) (Nat.le_of_ble_eq_true rfl) rfl (k_McutDate m3 (show K.D + 1 ≤ 3 by omega) (show q < K.D + 1 by omega)) rfl (fun v2 w2 h84z => ?_)
                    obtain ⟨rfl, ξ4, rfl, m4, fk4, fa4⟩ := h84z
                    have m5 : zMR ξ4 0 K := m4.cgd (show K.D + 1 - 1 = K.D by omega) p4 rfl rfl rfl rfl rfl
                    have g5 : zfm ξ ξ4 := g3.tr ⟨fun a q1 _ => fa4 a (by omega) (by omega) (by omega), fun k q => fk4 k (by omega)⟩
                    refine zr_iload 89 rfl rfl rfl ?_
                    refine zr_iload_n 90 rfl rfl rfl ?_
                    refine zr_icmp_le 97 93 rfl rfl (by decide) (fun c90z => ?_) (fun c90z => ?_)
                    · refine zr_iload_n 98 rfl rfl rfl ?_
                      refine zr_istore_n 99 (L2 := [_, _, _, _, _, _]) rfl rfl (Nat.le_of_ble_eq_true rfl) (by first | exact trivial | exact rfl) rfl ?_
                      refine zr_iload 101 rfl rfl rfl ?_
                      refine zr_iload_n 102 rfl rfl rfl ?_
                      refine zr_icmp_le 110 105 rfl rfl (by decide) (fun c102z => ?_) (fun c102z => ?_)
                      · refine zr_iload_n 111 rfl rfl rfl ?_
                        refine zr_istore_n 112 (L2 := [_, _, _, _, _, _]) rfl rfl (Nat.le_of_ble_eq_true rfl) (by first | exact trivial | exact rfl) rfl ?_
                        refine zr_iinc 115 (c0 := 1) (L2 := [_, _, _, _, _, _]) rfl rfl rfl (by first | exact trivial | exact rfl) (by decide) rfl ?_
                        refine zr_goto 12 rfl (by decide) ?_
                        refine zs_forget (L' := [_, _, _, _, none, none]) (zsub_s (zsub_s (zsub_s (zsub_s (zsub_n (zsub_n zsub_0)))))) ?_
                        rw [nI_1]
                        exact ih _ (by omega) (j + 1) best most ξ4 rfl m5 g5 (by omega) (Or.inl ⟨hD3, by rw [eb, if_neg (Int32.not_lt.mpr c90z), hnb2 c90z], Or.inr hnb⟩)
                      · refine zr_iload 107 rfl rfl rfl ?_
                        refine zr_goto 111 rfl (by decide) ?_
                        refine zr_istore_n 112 (L2 := [_, _, _, _, _, _]) rfl rfl (Nat.le_of_ble_eq_true rfl) (by first | exact trivial | exact rfl) rfl ?_
                        refine zr_iinc 115 (c0 := 1) (L2 := [_, _, _, _, _, _]) rfl rfl rfl (by first | exact trivial | exact rfl) (by decide) rfl ?_
                        refine zr_goto 12 rfl (by decide) ?_
                        exact absurd c90z c102z
                    · refine zr_iload_n 94 rfl rfl rfl ?_
                      refine zr_goto 98 rfl (by decide) ?_
                      refine zr_istore_n 99 (L2 := [_, _, _, _, _, _]) rfl rfl (Nat.le_of_ble_eq_true rfl) (by first | exact trivial | exact rfl) rfl ?_
                      refine zr_iload 101 rfl rfl rfl ?_
                      refine zr_iload_n 102 rfl rfl rfl ?_
                      refine zr_icmp_le 110 105 rfl rfl (by decide) (fun c102z => ?_) (fun c102z => ?_)
                      · refine zr_iload_n 111 rfl rfl rfl ?_
                        refine zr_istore_n 112 (L2 := [_, _, _, _, _, _]) rfl rfl (Nat.le_of_ble_eq_true rfl) (by first | exact trivial | exact rfl) rfl ?_
                        refine zr_iinc 115 (c0 := 1) (L2 := [_, _, _, _, _, _]) rfl rfl rfl (by first | exact trivial | exact rfl) (by decide) rfl ?_
                        refine zr_goto 12 rfl (by decide) ?_
                        exact absurd c102z c90z
                      · refine zr_iload 107 rfl rfl rfl ?_
                        refine zr_goto 111 rfl (by decide) ?_
                        refine zr_istore_n 112 (L2 := [_, _, _, _, _, _]) rfl rfl (Nat.le_of_ble_eq_true rfl) (by first | exact trivial | exact rfl) rfl ?_
                        refine zr_iinc 115 (c0 := 1) (L2 := [_, _, _, _, _, _]) rfl rfl rfl (by first | exact trivial | exact rfl) (by decide) rfl ?_
                        refine zr_goto 12 rfl (by decide) ?_
                        refine zs_forget (L' := [_, _, _, _, none, none]) (zsub_s (zsub_s (zsub_s (zsub_s (zsub_n (zsub_n zsub_0)))))) ?_
                        rw [nI_1]
                        exact ih _ (by omega) (j + 1) _ _ ξ4 rfl m5 g5 (by omega) (Or.inl ⟨hD3, by rw [eb, if_pos (Int32.not_le.mp c90z)], Or.inr (nI_pos' (by omega))⟩)
                  · have nq : q < pq := by
                      rcases Nat.lt_or_ge q pq with z | z
                      · exact z
                      · have e : q = pq := by omega
                        exact absurd (by rw [e]; exact (m3.hdd pq (show pq < K.D + 1 by omega)).trans p2) c72z
                    refine zr_iinc 78 (c0 := 1) (L2 := [_, _, _, _, _, _]) rfl rfl rfl (by first | exact trivial | exact rfl) (by decide) rfl ?_
                    refine zr_goto 64 rfl (by decide) ?_
                    rw [nI_1]
                    exact ih2 _ (by omega) (q + 1) rfl (by omega)
              refine zr_istore 61 (L2 := [_, _, _, _, _, _]) rfl rfl (Nat.le_of_ble_eq_true rfl) (by first | exact trivial | exact rfl) rfl ?_
              refine zr_iconst 62 (x := 0) rfl rfl (by decide) ?_
              refine zr_istore 64 (L2 := [_, _, _, _, _, _]) rfl rfl (Nat.le_of_ble_eq_true rfl) (by first | exact trivial | exact rfl) rfl ?_
              exact key2 _ 0 rfl (Nat.zero_le _)
          · refine zr_iload_n 35 rfl rfl rfl ?_
            refine zr_goto 39 rfl (by decide) ?_
            refine zr_istore_n 40 (L2 := [_, _, _, _, _, _]) rfl rfl (Nat.le_of_ble_eq_true rfl) (by first | exact trivial | exact rfl) rfl ?_
            refine zr_aload_n 41 rfl rfl rfl trivial ?_
            refine zr_getf 44 rfl rfl rfl rfl rfl ?_
            refine zr_iconst 45 (x := 3) rfl rfl (by decide) ?_
            refine zr_icmp_ge 112 48 rfl rfl (by decide) (fun c45z => ?_) (fun c45z => ?_)
            · rw [m1.hd, show (3 : Int32) = nI 3 from rfl, nI_leI (by omega) (by omega)] at c45z
              refine zr_iinc 115 (c0 := 1) (L2 := [_, _, _, _, _, _]) rfl rfl rfl (by first | exact trivial | exact rfl) (by decide) rfl ?_
              refine zr_goto 12 rfl (by decide) ?_
              rw [nI_1]
              refine ih _ (by omega) (j + 1) (nI j) most ξ1 rfl m1 f1 (by omega) (Or.inr ⟨by omega, Or.inr ⟨nI_pos' (by omega), ?_⟩⟩)
              rcases eb0 with ⟨q, _⟩ | ⟨_, ⟨e, q⟩ | ⟨e, q⟩⟩
              · omega
              · rw [q, if_pos (by omega)]
              · exact absurd e c31z
            · rw [m1.hd, show (3 : Int32) = nI 3 from rfl, nI_leI (by omega) (by omega)] at c45z
              have hD3 : K.D < 3 := by omega
              have ebq : (K.best = if most < ((K.addD (nI j) 50).go 60).sum then K.bst (K.U - (j + 1)) (j + 1) (nI j) ((K.addD (nI j) 50).go 60).sum else K.bst (K.U - (j + 1)) (j + 1) best most) ∧ ((best = -3 ∧ most = -1) ∨ 0 ≤ best) := by
                rcases eb0 with ⟨_, q1, q2⟩ | ⟨q, _⟩
                · rw [if_neg (by omega)] at q1
                  exact ⟨q1, q2⟩
                · omega
              obtain ⟨eb, hbm⟩ := ebq
              refine zr_aload_n 49 rfl rfl rfl trivial ?_
              refine zr_iload_n 50 rfl rfl rfl ?_
              refine zr_bipush 52 (x := 50) rfl rfl (by decide) ?_
              refine zr_callv 55 (As := [_, _]) (u2 := (0, 0)) rfl rfl rfl rfl rfl rfl rfl (Nat.le_of_ble_eq_true rfl) (Nat.le_of_ble_eq_true rfl) (Nat.le_of_ble_eq_true rfl) rfl (k_MaddDate m1 hD3 _ _) rfl (fun v2 w2 h52z => ?_)
              obtain ⟨rfl, ξ2, rfl, m2, fk2, fa2⟩ := h52z
              have hKa := hK.addD hD3 (day := nI j) (part := 50) (by rw [nI_toInt (by omega)]; omega) (by rw [hU, nI_toInt (by omega), nI_toInt (by omega)]; omega) c27z (by decide)
              refine zr_aload_n 56 rfl rfl rfl trivial ?_
              refine zr_callv 59 (As := []) (u2 := (0, 0)) rfl rfl rfl rfl rfl rfl rfl (Nat.le_of_ble_eq_true rfl) (Nat.le_of_ble_eq_true rfl) (Nat.le_of_ble_eq_true rfl) rfl (c_Mmarks m2 hKa) rfl (fun v2 w2 h56z => ?_)
              obtain ⟨ξ3, rfl, rfl, f3⟩ := h56z
              have m3 := f3.mr m2 hm6
              have g3 : zfm ξ ξ3 := (f1.tr ⟨fun a q1 _ => fa2 a (by omega) (by omega) (by omega), fun k q => fk2 k (by omega)⟩).tr f3.fm
              obtain ⟨pq, p1, p2, p3, p4⟩ := zaddcut c27z
              have vp := zsum_pos ((K.addD (nI j) 50).go 60) hm6
              have hnb2 : ((K.addD (nI j) 50).go 60).sum ≤ most → K.bst (K.U - (j + 1)) (j + 1) best most = K.bst (K.U - (j + 1)) (j + 1) (nI j) most := fun q => by
                rcases hbm with ⟨_, e⟩ | e
                · rw [e] at q
                  exact absurd (Int32.le_trans vp q) (by decide)
                · exact absurd e c31z
              have hnb : 0 ≤ nI j := nI_pos' (by omega)
              have key2 : ∀ (k2 : Nat) (q : Nat), pq - q = k2 → q ≤ pq →  Zw S (Zc S (d + 8)) 6 false 1 zk_X6_bestDate (fun r w => ∃ ξ2, w = zWof n ξ2 ρ ∧ r = some (.int (K.best)) ∧ zMR ξ2 0 K ∧ zfm ξ ξ2) (64, [some (.ref 42), some (.int (nI j)), some (.int most), some (.int (nI j)), some (.int (((K.addD (nI j) 50).go 60).sum)), some (.int (nI q))], [], (0, 0), zWof n ξ3 ρ) := by
                intro k2
                induction k2 using Nat.strongRecOn with
                | ind k2 ih2 =>
                  intro q hk hq
                  refine zr_aload_n 65 rfl rfl rfl trivial ?_
                  refine zr_getf 68 rfl rfl rfl rfl rfl ?_
                  refine zr_iload 70 rfl rfl rfl ?_
                  refine zr_iald 71 rfl rfl rfl (nI_clamp (by omega)) (vp_in_nI (by omega) (by omega)) ?_
                  refine zr_iload_n 72 rfl rfl rfl ?_
                  refine zr_icmp_eq 81 75 rfl rfl (by decide) (fun c72z => ?_) (fun c72z => ?_)
                  · have eq : q = pq := by
                      rcases Nat.lt_or_ge q pq with z | z
                      · exact absurd ((m3.hdd q (show q < K.D + 1 by omega)).symm.trans c72z) (p3 q z)
                      · omega
                    subst eq
                    refine zr_aload_n 82 rfl rfl rfl trivial ?_
                    refine zr_iload 84 rfl rfl rfl ?_
                    refine zr_callv 87 (As := [_]) (u2 := (0, 0)) rfl rfl rfl rfl rfl rfl rfl (Nat.le_of_ble_eq_true rfl) (Nat.le_of_ble_eq_true rfl) (Nat.le_of_ble_eq_true rfl) rfl (k_McutDate m3 (show K.D + 1 ≤ 3 by omega) (show q < K.D + 1 by omega)) rfl (fun v2 w2 h84z => ?_)
                    obtain ⟨rfl, ξ4, rfl, m4, fk4, fa4⟩ := h84z
                    have m5 : zMR ξ4 0 K := m4.cgd (show K.D + 1 - 1 = K.D by omega) p4 rfl rfl rfl rfl rfl
                    have g5 : zfm ξ ξ4 := g3.tr ⟨fun a q1 _ => fa4 a (by omega) (by omega) (by omega), fun k q => fk4 k (by omega)⟩
                    refine zr_iload 89 rfl rfl rfl ?_
                    refine zr_iload_n 90 rfl rfl rfl ?_
                    refine zr_icmp_le 97 93 rfl rfl (by decide) (fun c90z => ?_) (fun c90z => ?_)
                    · refine zr_iload_n 98 rfl rfl rfl ?_
                      refine zr_istore_n 99 (L2 := [_, _, _, _, _, _]) rfl rfl (Nat.le_of_ble_eq_true rfl) (by first | exact trivial | exact rfl) rfl ?_
                      refine zr_iload 101 rfl rfl rfl ?_
                      refine zr_iload_n 102 rfl rfl rfl ?_
                      refine zr_icmp_le 110 105 rfl rfl (by decide) (fun c102z => ?_) (fun c102z => ?_)
                      · refine zr_iload_n 111 rfl rfl rfl ?_
                        refine zr_istore_n 112 (L2 := [_, _, _, _, _, _]) rfl rfl (Nat.le_of_ble_eq_true rfl) (by first | exact trivial | exact rfl) rfl ?_
                        refine zr_iinc 115 (c0 := 1) (L2 := [_, _, _, _, _, _]) rfl rfl rfl (by first | exact trivial | exact rfl) (by decide) rfl ?_
                        refine zr_goto 12 rfl (by decide) ?_
                        refine zs_forget (L' := [_, _, _, _, none, none]) (zsub_s (zsub_s (zsub_s (zsub_s (zsub_n (zsub_n zsub_0)))))) ?_
                        rw [nI_1]
                        exact ih _ (by omega) (j + 1) (nI j) most ξ4 rfl m5 g5 (by omega) (Or.inl ⟨hD3, by rw [eb, if_neg (Int32.not_lt.mpr c90z), hnb2 c90z], Or.inr hnb⟩)
                      · refine zr_iload 107 rfl rfl rfl ?_
                        refine zr_goto 111 rfl (by decide) ?_
                        refine zr_istore_n 112 (L2 := [_, _, _, _, _, _]) rfl rfl (Nat.le_of_ble_eq_true rfl) (by first | exact trivial | exact rfl) rfl ?_
                        refine zr_iinc 115 (c0 := 1) (L2 := [_, _, _, _, _, _]) rfl rfl rfl (by first | exact trivial | exact rfl) (by decide) rfl ?_
                        refine zr_goto 12 rfl (by decide) ?_
                        exact absurd c90z c102z
                    · refine zr_iload_n 94 rfl rfl rfl ?_
                      refine zr_goto 98 rfl (by decide) ?_
                      refine zr_istore_n 99 (L2 := [_, _, _, _, _, _]) rfl rfl (Nat.le_of_ble_eq_true rfl) (by first | exact trivial | exact rfl) rfl ?_
                      refine zr_iload 101 rfl rfl rfl ?_
                      refine zr_iload_n 102 rfl rfl rfl ?_
                      refine zr_icmp_le 110 105 rfl rfl (by decide) (fun c102z => ?_) (fun c102z => ?_)
                      · refine zr_iload_n 111 rfl rfl rfl ?_
                        refine zr_istore_n 112 (L2 := [_, _, _, _, _, _]) rfl rfl (Nat.le_of_ble_eq_true rfl) (by first | exact trivial | exact rfl) rfl ?_
                        refine zr_iinc 115 (c0 := 1) (L2 := [_, _, _, _, _, _]) rfl rfl rfl (by first | exact trivial | exact rfl) (by decide) rfl ?_
                        refine zr_goto 12 rfl (by decide) ?_
                        exact absurd c102z c90z
                      · refine zr_iload 107 rfl rfl rfl ?_
                        refine zr_goto 111 rfl (by decide) ?_
                        refine zr_istore_n 112 (L2 := [_, _, _, _, _, _]) rfl rfl (Nat.le_of_ble_eq_true rfl) (by first | exact trivial | exact rfl) rfl ?_
                        refine zr_iinc 115 (c0 := 1) (L2 := [_, _, _, _, _, _]) rfl rfl rfl (by first | exact trivial | exact rfl) (by decide) rfl ?_
                        refine zr_goto 12 rfl (by decide) ?_
                        refine zs_forget (L' := [_, _, _, _, none, none]) (zsub_s (zsub_s (zsub_s (zsub_s (zsub_n (zsub_n zsub_0)))))) ?_
                        rw [nI_1]
                        exact ih _ (by omega) (j + 1) _ _ ξ4 rfl m5 g5 (by omega) (Or.inl ⟨hD3, by rw [eb, if_pos (Int32.not_le.mp c90z)], Or.inr (nI_pos' (by omega))⟩)
                  · have nq : q < pq := by
                      rcases Nat.lt_or_ge q pq with z | z
                      · exact z
                      · have e : q = pq := by omega
                        exact absurd (by rw [e]; exact (m3.hdd pq (show pq < K.D + 1 by omega)).trans p2) c72z
                    refine zr_iinc 78 (c0 := 1) (L2 := [_, _, _, _, _, _]) rfl rfl rfl (by first | exact trivial | exact rfl) (by decide) rfl ?_
                    refine zr_goto 64 rfl (by decide) ?_
                    rw [nI_1]
                    exact ih2 _ (by omega) (q + 1) rfl (by omega)
              refine zr_istore 61 (L2 := [_, _, _, _, _, _]) rfl rfl (Nat.le_of_ble_eq_true rfl) (by first | exact trivial | exact rfl) rfl ?_
              refine zr_iconst 62 (x := 0) rfl rfl (by decide) ?_
              refine zr_istore 64 (L2 := [_, _, _, _, _, _]) rfl rfl (Nat.le_of_ble_eq_true rfl) (by first | exact trivial | exact rfl) rfl ?_
              exact key2 _ 0 rfl (Nat.zero_le _)
  refine zr_bipush 2 (x := (-3)) rfl rfl (by decide) ?_
  refine zr_istore_n 3 (L2 := [_, _, _, _, _, _]) rfl rfl (Nat.le_of_ble_eq_true rfl) (by first | exact trivial | exact rfl) rfl ?_
  refine zr_iconst 4 (x := (-1)) rfl rfl (by decide) ?_
  refine zr_istore_n 5 (L2 := [_, _, _, _, _, _]) rfl rfl (Nat.le_of_ble_eq_true rfl) (by first | exact trivial | exact rfl) rfl ?_
  refine zr_aload_n 6 rfl rfl rfl trivial ?_
  refine zr_getf 9 rfl rfl rfl rfl rfl ?_
  refine zr_iconst 10 (x := 0) rfl rfl (by decide) ?_
  refine zr_iald 11 (i := 0) rfl rfl rfl (by decide) (by unfold vp_in; decide) ?_
  refine zr_istore_n 12 (L2 := [_, _, _, _, _, _]) rfl rfl (Nat.le_of_ble_eq_true rfl) (by first | exact trivial | exact rfl) rfl ?_
  rw [h.ht]
  refine key _ K.T (-3) (-1) ξ rfl h (zfm.rf _) ht60 ?_
  by_cases q : K.D < 3
  · exact Or.inl ⟨q, rfl, Or.inl ⟨rfl, rfl⟩⟩
  · exact Or.inr ⟨by omega, Or.inl ⟨rfl, rfl⟩⟩
