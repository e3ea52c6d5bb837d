set_option maxRecDepth 20000 in
set_option maxHeartbeats 1000000 in
theorem c_MisHeld {S : Nat × (Nat → Int32)} {d n : Nat} {ξ : Nat → Nat → Int32} {ρ : zRho} {K : zCs} (h : zMR ξ 0 K) (hK : zOK K) (a v : Int32) : Zc S (d + 3) jX6_isHeld [.ref 42, .int a, .int v] (zWof n ξ ρ) (fun r w => r = some (.int (zb (zthing K a v))) ∧ w = zWof n ξ ρ) := by
  have hd3 := hK.d3
  have hm6 := hK.m6
  have ht60 := hK.t60
  refine Zc_in (q := (6, 0, 3, 2, 3, 0, 0, zk_X6_isHeld)) rfl (Nat.le_of_ble_eq_true rfl) (L := [_, _, _]) rfl ?_
  refine zr_iload_n 1 rfl rfl rfl ?_
  refine zr_if_ne 12 4 rfl rfl (by decide) (fun c1z => ?_) (fun c1z => ?_)
  · refine zr_iload_n 13 rfl rfl rfl ?_
    refine zr_iconst 14 (x := 1) rfl rfl (by decide) ?_
    refine zr_icmp_ne 24 17 rfl rfl (by decide) (fun c14z => ?_) (fun c14z => ?_)
    · refine zr_iload_n 25 rfl rfl rfl ?_
      refine zr_iconst 26 (x := 2) rfl rfl (by decide) ?_
      refine zr_icmp_ne 33 29 rfl rfl (by decide) (fun c26z => ?_) (fun c26z => ?_)
      · refine zr_iconst 34 (x := 0) rfl rfl (by decide) ?_
        refine zr_zret rfl rfl (Or.inl rfl) ?_
        refine ⟨?_, rfl⟩
        rw [zb_f (fun q => q.elim (fun z => c1z z.1) (fun z => z.elim (fun z => c14z z.1) c26z))]
      · refine zr_iconst 30 (x := 1) rfl rfl (by decide) ?_
        refine zr_goto 34 rfl (by decide) ?_
        refine zr_zret rfl rfl (Or.inr rfl) ?_
        refine ⟨?_, rfl⟩
        rw [zb_t (Or.inr (Or.inr c26z))]
    · refine zr_iload_n 18 rfl rfl rfl ?_
      refine zr_calls 21 (As := [_]) (u2 := (0, 0)) rfl rfl rfl rfl rfl rfl rfl (Nat.le_of_ble_eq_true rfl) (Nat.le_of_ble_eq_true rfl) (Nat.le_of_ble_eq_true rfl) (c_MisShelf _) rfl (fun v2 w2 h18z => ?_)
      obtain ⟨rfl, rfl⟩ := h18z
      refine zr_goto 34 rfl (by decide) ?_
      refine zr_zret rfl rfl (zb_01 _) ?_
      refine ⟨?_, rfl⟩
      rw [zb_c (show (0 ≤ v ∧ v < 4) ↔ zthing K a v from ⟨fun q => Or.inr (Or.inl ⟨c14z, q⟩), fun q => q.elim (fun z => absurd z.1 c1z) (fun z => z.elim (fun z => z.2) (fun z => absurd (c14z.symm.trans z) (by decide)))⟩)]
  · refine zr_aload_n 5 rfl rfl rfl trivial ?_
    refine zr_iload_n 6 rfl rfl rfl ?_
    refine zr_callv 9 (As := [_]) (u2 := (0, 0)) rfl rfl rfl rfl rfl rfl rfl (Nat.le_of_ble_eq_true rfl) (Nat.le_of_ble_eq_true rfl) (Nat.le_of_ble_eq_true rfl) rfl (c_MisPerson h hK _) rfl (fun v2 w2 h6z => ?_)
    obtain ⟨rfl, rfl⟩ := h6z
    refine zr_goto 34 rfl (by decide) ?_
    refine zr_zret rfl rfl (zb_01 _) ?_
    refine ⟨?_, rfl⟩
    rw [zb_c (show (0 ≤ v ∧ v < nI K.M) ↔ zthing K a v from ⟨fun q => Or.inl ⟨c1z, q⟩, fun q => q.elim (fun z => z.2) (fun z => z.elim (fun z => absurd (c1z.symm.trans z.1) (by decide)) (fun z => absurd (c1z.symm.trans z) (by decide)))⟩)]
set_option maxRecDepth 20000 in
set_option maxHeartbeats 1000000 in
theorem c_Mshelf {S : Nat × (Nat → Int32)} {d n : Nat} {ξ : Nat → Nat → Int32} {ρ : zRho} {K : zCs} (h : zMR ξ 0 K) (hK : zOK K) {sh : zSh} (hS : zMS ξ ρ.2.2.1 sh) {hp : Nat → Int32} {sl : zSl} (hL : zML ξ hp sl) (x a v : Int32) : Zc S (d + 4) jX6_shelf [.ref 42, .int x, .int a, .int v] (zWof n ξ ρ) (fun r w => ∃ ξ2, w = zWof n ξ2 ρ ∧ r = some (.int (zshelfF K sh hp sl x a v).2.2) ∧ zML ξ2 (zshelfF K sh hp sl x a v).1 (zshelfF K sh hp sl x a v).2.1 ∧ ∀ b, b ≠ 64 → b ≠ 65 → b ≠ 66 → ξ2 b = ξ b) := by
  have hd3 := hK.d3
  have hm6 := hK.m6
  have ht60 := hK.t60
  refine Zc_in (q := (6, 0, 1, 3, 4, 0, 0, zk_X6_shelf)) rfl (Nat.le_of_ble_eq_true rfl) (L := [_, _, _, _]) rfl ?_
  refine zr_iload_n 1 rfl rfl rfl ?_
  refine zr_calls 4 (As := [_]) (u2 := (0, 0)) rfl rfl rfl rfl rfl rfl rfl (Nat.le_of_ble_eq_true rfl) (Nat.le_of_ble_eq_true rfl) (Nat.le_of_ble_eq_true rfl) (c_MisShelf _) rfl (fun v2 w2 h1z => ?_)
  obtain ⟨rfl, rfl⟩ := h1z
  refine zr_if_eq 16 7 rfl rfl (by decide) (fun c4z => ?_) (fun c4z => ?_)
  · replace c4z := zb_0.mp c4z
    refine zr_iconst 17 (x := (-1)) rfl rfl (by decide) ?_
    refine zr_iret rfl rfl ?_
    refine ⟨ξ, rfl, ?_⟩
    rw [show zshelfF K sh hp sl x a v = _ from if_pos (fun q => c4z q.1)]
    exact ⟨rfl, hL, fun _ _ _ _ => rfl⟩
  · replace c4z := zb_n0.mp c4z
    obtain ⟨i, hi, rfl⟩ := zperI (m := 4) (M := 4) rfl (by decide) c4z
    refine zr_aload_n 8 rfl rfl rfl trivial ?_
    refine zr_iload_n 9 rfl rfl rfl ?_
    refine zr_iload_n 10 rfl rfl rfl ?_
    refine zr_callv 13 (As := [_, _]) (u2 := (0, 0)) rfl rfl rfl rfl rfl rfl rfl (Nat.le_of_ble_eq_true rfl) (Nat.le_of_ble_eq_true rfl) (Nat.le_of_ble_eq_true rfl) rfl (c_MisHeld h hK _ _) rfl (fun v2 w2 h10z => ?_)
    obtain ⟨rfl, rfl⟩ := h10z
    refine zr_if_ne 18 16 rfl rfl (by decide) (fun c13z => ?_) (fun c13z => ?_)
    · replace c13z := zb_n0.mp c13z
      rcases c13z with ⟨rfl, hv⟩ | ⟨rfl, hv⟩ | rfl
      · refine zr_aload_n 19 rfl rfl rfl trivial ?_
        refine zr_getf 22 rfl rfl rfl rfl rfl ?_
        refine zr_iload_n 23 rfl rfl rfl ?_
        refine zr_iload_n 24 rfl rfl rfl ?_
        refine zr_iconst 25 (x := 2) rfl rfl (by decide) ?_
        refine zr_icmp_eq 42 28 rfl rfl (by decide) (fun c25z => ?_) (fun c25z => ?_)
        · exact absurd c25z (by decide)
        · refine zr_iload_n 29 rfl rfl rfl ?_
          refine zr_iconst 30 (x := 1) rfl rfl (by decide) ?_
          refine zr_icmp_ne 46 33 rfl rfl (by decide) (fun c30z => ?_) (fun c30z => ?_)
          · refine zr_iload_n 47 rfl rfl rfl ?_
            refine zr_iast 48 rfl rfl rfl (nI_clamp (by omega)) (vp_in_nI (by omega) (by omega)) (zW_set rfl) ?_
            refine zr_aload_n 49 rfl rfl rfl trivial ?_
            refine zr_getf 52 rfl rfl rfl rfl rfl ?_
            refine zr_iload_n 53 rfl rfl rfl ?_
            refine zr_iload_n 54 rfl rfl rfl ?_
            refine zr_iconst 55 (x := 1) rfl rfl (by decide) ?_
            refine zr_icmp_ne 67 58 rfl rfl (by decide) (fun c55z => ?_) (fun c55z => ?_)
            · refine zr_iload_n 68 rfl rfl rfl ?_
              refine zr_iast 69 rfl rfl rfl (nI_clamp (by omega)) (vp_in_nI (by omega) (by omega)) (zW_set rfl) ?_
              refine zr_aload_n 70 rfl rfl rfl trivial ?_
              refine zr_getf 73 rfl rfl rfl rfl rfl ?_
              refine zr_iload_n 74 rfl rfl rfl ?_
              refine zr_iload_n 75 rfl rfl rfl ?_
              refine zr_iconst 76 (x := 1) rfl rfl (by decide) ?_
              refine zr_icmp_ne 88 79 rfl rfl (by decide) (fun c76z => ?_) (fun c76z => ?_)
              · refine zr_iconst 89 (x := 0) rfl rfl (by decide) ?_
                refine zr_iast 90 rfl rfl rfl (nI_clamp (by omega)) (vp_in_nI (by omega) (by omega)) (zW_set rfl) ?_
                refine zr_iconst 91 (x := 1) rfl rfl (by decide) ?_
                refine zr_iret rfl rfl ?_
                refine ⟨_, rfl, ?_⟩
                rw [show zshelfF K sh hp sl (nI i) 0 v = (upd hp i v, va_up sl i none, 1) by
                  unfold zshelfF
                  rw [if_neg (fun q => q ⟨c4z, Or.inl ⟨rfl, hv⟩⟩), nI_clamp (by omega)]
                  rfl]
                refine ⟨rfl, hL.up (fun j hj => ⟨?_, ?_, ?_⟩) ?_, fun b h1 h2 h3 => by rw [zun h3, zun h2, zun h1]⟩
                · rw [zun (by decide), zun (by decide), zu_ne (Or.inr hj)]
                · rw [zun (by decide), zu_ne (Or.inr hj), zun (by decide)]
                · rw [zu_ne (Or.inr hj), zun (by decide), zun (by decide)]
                · exact Or.inr (Or.inl ⟨rfl, hv.1, (by rw [zun (by decide), zun (by decide), zu_same]), (by rw [zun (by decide), zu_same])⟩)
              · exact absurd c76z (by decide)
            · exact absurd c55z (by decide)
          · exact absurd c30z (by decide)
      · obtain ⟨q, hq, rfl⟩ := zperI (m := 4) (M := 4) rfl (by decide) hv
        have hs61 : ∀ ξa k w, zu ξa 64 k w 61 = ξa 61 := fun _ _ _ => zun (by decide)
        refine zr_aload_n 19 rfl rfl rfl trivial ?_
        refine zr_getf 22 rfl rfl rfl rfl rfl ?_
        refine zr_iload_n 23 rfl rfl rfl ?_
        refine zr_iload_n 24 rfl rfl rfl ?_
        refine zr_iconst 25 (x := 2) rfl rfl (by decide) ?_
        refine zr_icmp_eq 42 28 rfl rfl (by decide) (fun c25z => ?_) (fun c25z => ?_)
        · exact absurd c25z (by decide)
        · refine zr_iload_n 29 rfl rfl rfl ?_
          refine zr_iconst 30 (x := 1) rfl rfl (by decide) ?_
          refine zr_icmp_ne 46 33 rfl rfl (by decide) (fun c30z => ?_) (fun c30z => ?_)
          · exact absurd rfl c30z
          · refine zr_aload_n 34 rfl rfl rfl trivial ?_
            refine zr_getf 37 rfl rfl rfl rfl rfl ?_
            refine zr_iload_n 38 rfl rfl rfl ?_
            refine zr_iald 39 rfl rfl rfl (nI_clamp (by omega)) (vp_in_nI (by omega) (by omega)) ?_
            refine zr_if_ge 46 42 rfl rfl (by decide) (fun c39z => ?_) (fun c39z => ?_)
            · obtain ⟨so, si, it, b1, b2, b3, b4, b5, b6, b7⟩ : ∃ sort size it, sh q = some (sort, size, it) ∧ ξ 61 q = sort ∧ (0 ≤ sort ∧ sort ≤ 3) ∧ ξ 62 q = nI size ∧ size ≤ 40 ∧ (∀ k, k < size → ρ.2.2.1 (q * 40 + k) = it k) ∧ ∀ k, k < size → ∃ y : Int32, it k = y.toInt64 := by
                rcases hS q hq with ⟨_, z⟩ | z
                · exact absurd c39z (by rw [z]; decide)
                · exact z
              refine zr_iload_n 47 rfl rfl rfl ?_
              refine zr_iast 48 rfl rfl rfl (nI_clamp (by omega)) (vp_in_nI (by omega) (by omega)) (zW_set rfl) ?_
              refine zr_aload_n 49 rfl rfl rfl trivial ?_
              refine zr_getf 52 rfl rfl rfl rfl rfl ?_
              refine zr_iload_n 53 rfl rfl rfl ?_
              refine zr_iload_n 54 rfl rfl rfl ?_
              refine zr_iconst 55 (x := 1) rfl rfl (by decide) ?_
              refine zr_icmp_ne 67 58 rfl rfl (by decide) (fun c55z => ?_) (fun c55z => ?_)
              · exact absurd rfl c55z
              · refine zr_aload_n 59 rfl rfl rfl trivial ?_
                refine zr_getf 62 rfl rfl rfl rfl rfl ?_
                refine zr_iload_n 63 rfl rfl rfl ?_
                refine zr_iald 64 rfl rfl rfl (nI_clamp (by omega)) (vp_in_nI (by omega) (by omega)) ?_
                refine zr_goto 68 rfl (by decide) ?_
                refine zr_iast 69 rfl rfl rfl (nI_clamp (by omega)) (vp_in_nI (by omega) (by omega)) (zW_set rfl) ?_
                refine zr_aload_n 70 rfl rfl rfl trivial ?_
                refine zr_getf 73 rfl rfl rfl rfl rfl ?_
                refine zr_iload_n 74 rfl rfl rfl ?_
                refine zr_iload_n 75 rfl rfl rfl ?_
                refine zr_iconst 76 (x := 1) rfl rfl (by decide) ?_
                refine zr_icmp_ne 88 79 rfl rfl (by decide) (fun c76z => ?_) (fun c76z => ?_)
                · exact absurd rfl c76z
                · refine zr_aload_n 80 rfl rfl rfl trivial ?_
                  refine zr_getf 83 rfl rfl rfl rfl rfl ?_
                  refine zr_iload_n 84 rfl rfl rfl ?_
                  refine zr_iald 85 rfl rfl rfl (nI_clamp (by omega)) (vp_in_nI (by omega) (by omega)) ?_
                  refine zr_goto 89 rfl (by decide) ?_
                  refine zr_iast 90 rfl rfl rfl (nI_clamp (by omega)) (vp_in_nI (by omega) (by omega)) (zW_set rfl) ?_
                  refine zr_iconst 91 (x := 1) rfl rfl (by decide) ?_
                  refine zr_iret rfl rfl ?_
                  refine ⟨_, rfl, ?_⟩
                  rw [show zshelfF K sh hp sl (nI i) 1 (nI q) = (upd hp i (-1), va_up sl i (some (so, si)), 1) by
                    unfold zshelfF
                    rw [if_neg (fun q => q ⟨c4z, Or.inr (Or.inl ⟨rfl, hv⟩)⟩), nI_clamp (by omega)]
                    rw [if_neg (by decide), if_pos rfl, nI_clamp (by omega), zshrow, b1]]
                  refine ⟨rfl, hL.up (fun j hj => ⟨?_, ?_, ?_⟩) ?_, fun b h1 h2 h3 => by rw [zun h3, zun h2, zun h1]⟩
                  · rw [zun (by decide), zun (by decide), zu_ne (Or.inr hj)]
                  · rw [zun (by decide), zu_ne (Or.inr hj), zun (by decide)]
                  · rw [zu_ne (Or.inr hj), zun (by decide), zun (by decide)]
                  · exact Or.inr (Or.inr ⟨so, si, rfl, rfl, (by rw [zun (by decide), zun (by decide), zu_same]), (by rw [zun (by decide), zu_same, zun (by decide)]; exact b2), b3, (by rw [zu_same, zun (by decide), zun (by decide)]; exact b4)⟩)
            · have b1 : sh q = none := by
                rcases hS q hq with ⟨z, _⟩ | ⟨so, si, it, b1, b2, b3, _⟩
                · exact z
                · exact absurd (by rw [b2]; exact b3.1) c39z
              refine zr_iconst 43 (x := (-1)) rfl rfl (by decide) ?_
              refine zr_goto 47 rfl (by decide) ?_
              refine zr_iast 48 rfl rfl rfl (nI_clamp (by omega)) (vp_in_nI (by omega) (by omega)) (zW_set rfl) ?_
              refine zr_aload_n 49 rfl rfl rfl trivial ?_
              refine zr_getf 52 rfl rfl rfl rfl rfl ?_
              refine zr_iload_n 53 rfl rfl rfl ?_
              refine zr_iload_n 54 rfl rfl rfl ?_
              refine zr_iconst 55 (x := 1) rfl rfl (by decide) ?_
              refine zr_icmp_ne 67 58 rfl rfl (by decide) (fun c55z => ?_) (fun c55z => ?_)
              · exact absurd rfl c55z
              · refine zr_aload_n 59 rfl rfl rfl trivial ?_
                refine zr_getf 62 rfl rfl rfl rfl rfl ?_
                refine zr_iload_n 63 rfl rfl rfl ?_
                refine zr_iald 64 rfl rfl rfl (nI_clamp (by omega)) (vp_in_nI (by omega) (by omega)) ?_
                refine zr_goto 68 rfl (by decide) ?_
                refine zr_iast 69 rfl rfl rfl (nI_clamp (by omega)) (vp_in_nI (by omega) (by omega)) (zW_set rfl) ?_
                refine zr_aload_n 70 rfl rfl rfl trivial ?_
                refine zr_getf 73 rfl rfl rfl rfl rfl ?_
                refine zr_iload_n 74 rfl rfl rfl ?_
                refine zr_iload_n 75 rfl rfl rfl ?_
                refine zr_iconst 76 (x := 1) rfl rfl (by decide) ?_
                refine zr_icmp_ne 88 79 rfl rfl (by decide) (fun c76z => ?_) (fun c76z => ?_)
                · exact absurd rfl c76z
                · refine zr_aload_n 80 rfl rfl rfl trivial ?_
                  refine zr_getf 83 rfl rfl rfl rfl rfl ?_
                  refine zr_iload_n 84 rfl rfl rfl ?_
                  refine zr_iald 85 rfl rfl rfl (nI_clamp (by omega)) (vp_in_nI (by omega) (by omega)) ?_
                  refine zr_goto 89 rfl (by decide) ?_
                  refine zr_iast 90 rfl rfl rfl (nI_clamp (by omega)) (vp_in_nI (by omega) (by omega)) (zW_set rfl) ?_
                  refine zr_iconst 91 (x := 1) rfl rfl (by decide) ?_
                  refine zr_iret rfl rfl ?_
                  refine ⟨_, rfl, ?_⟩
                  rw [show zshelfF K sh hp sl (nI i) 1 (nI q) = (upd hp i (-1), va_up sl i none, 1) by
                    unfold zshelfF
                    rw [if_neg (fun q => q ⟨c4z, Or.inr (Or.inl ⟨rfl, hv⟩)⟩), nI_clamp (by omega)]
                    rw [if_neg (by decide), if_pos rfl, nI_clamp (by omega), zshrow, b1]]
                  refine ⟨rfl, hL.up (fun j hj => ⟨?_, ?_, ?_⟩) ?_, fun b h1 h2 h3 => by rw [zun h3, zun h2, zun h1]⟩
                  · rw [zun (by decide), zun (by decide), zu_ne (Or.inr hj)]
                  · rw [zun (by decide), zu_ne (Or.inr hj), zun (by decide)]
                  · rw [zu_ne (Or.inr hj), zun (by decide), zun (by decide)]
                  · exact Or.inl ⟨rfl, rfl, (by rw [zun (by decide), zun (by decide), zu_same])⟩
      · refine zr_aload_n 19 rfl rfl rfl trivial ?_
        refine zr_getf 22 rfl rfl rfl rfl rfl ?_
        refine zr_iload_n 23 rfl rfl rfl ?_
        refine zr_iload_n 24 rfl rfl rfl ?_
        refine zr_iconst 25 (x := 2) rfl rfl (by decide) ?_
        refine zr_icmp_eq 42 28 rfl rfl (by decide) (fun c25z => ?_) (fun c25z => ?_)
        · refine zr_iconst 43 (x := (-1)) rfl rfl (by decide) ?_
          refine zr_goto 47 rfl (by decide) ?_
          refine zr_iast 48 rfl rfl rfl (nI_clamp (by omega)) (vp_in_nI (by omega) (by omega)) (zW_set rfl) ?_
          refine zr_aload_n 49 rfl rfl rfl trivial ?_
          refine zr_getf 52 rfl rfl rfl rfl rfl ?_
          refine zr_iload_n 53 rfl rfl rfl ?_
          refine zr_iload_n 54 rfl rfl rfl ?_
          refine zr_iconst 55 (x := 1) rfl rfl (by decide) ?_
          refine zr_icmp_ne 67 58 rfl rfl (by decide) (fun c55z => ?_) (fun c55z => ?_)
          · refine zr_iload_n 68 rfl rfl rfl ?_
            refine zr_iast 69 rfl rfl rfl (nI_clamp (by omega)) (vp_in_nI (by omega) (by omega)) (zW_set rfl) ?_
            refine zr_aload_n 70 rfl rfl rfl trivial ?_
            refine zr_getf 73 rfl rfl rfl rfl rfl ?_
            refine zr_iload_n 74 rfl rfl rfl ?_
            refine zr_iload_n 75 rfl rfl rfl ?_
            refine zr_iconst 76 (x := 1) rfl rfl (by decide) ?_
            refine zr_icmp_ne 88 79 rfl rfl (by decide) (fun c76z => ?_) (fun c76z => ?_)
            · refine zr_iconst 89 (x := 0) rfl rfl (by decide) ?_
              refine zr_iast 90 rfl rfl rfl (nI_clamp (by omega)) (vp_in_nI (by omega) (by omega)) (zW_set rfl) ?_
              refine zr_iconst 91 (x := 1) rfl rfl (by decide) ?_
              refine zr_iret rfl rfl ?_
              refine ⟨_, rfl, ?_⟩
              rw [show zshelfF K sh hp sl (nI i) 2 v = (upd hp i (-1), va_up sl i none, 1) by
                unfold zshelfF
                rw [if_neg (fun q => q ⟨c4z, Or.inr (Or.inr rfl)⟩), nI_clamp (by omega)]
                rfl]
              refine ⟨rfl, hL.up (fun j hj => ⟨?_, ?_, ?_⟩) ?_, fun b h1 h2 h3 => by rw [zun h3, zun h2, zun h1]⟩
              · rw [zun (by decide), zun (by decide), zu_ne (Or.inr hj)]
              · rw [zun (by decide), zu_ne (Or.inr hj), zun (by decide)]
              · rw [zu_ne (Or.inr hj), zun (by decide), zun (by decide)]
              · exact Or.inl ⟨rfl, rfl, (by rw [zun (by decide), zun (by decide), zu_same])⟩
            · exact absurd c76z (by decide)
          · exact absurd c55z (by decide)
        · exact absurd rfl c25z
    · replace c13z := zb_0.mp c13z
      refine zr_iconst 17 (x := (-1)) rfl rfl (by decide) ?_
      refine zr_iret rfl rfl ?_
      refine ⟨ξ, rfl, ?_⟩
      rw [show zshelfF K sh hp sl (nI i) a v = _ from if_pos (fun q => c13z q.2)]
      exact ⟨rfl, hL, fun _ _ _ _ => rfl⟩
set_option maxRecDepth 20000 in
set_option maxHeartbeats 1000000 in
theorem c_MkindOn {S : Nat × (Nat → Int32)} {d n : Nat} {ξ : Nat → Nat → Int32} {ρ : zRho} {K : zCs} (h : zMR ξ 0 K) (hK : zOK K) {hp : Nat → Int32} {sl : zSl} (hL : zML ξ hp sl) {i : Nat} (hi : i < 4) : Zc S (d + 3) jX6_kindOn [.ref 42, .int (nI i)] (zWof n ξ ρ) (fun r w => r = some (.int (zkon K hp sl i)) ∧ w = zWof n ξ ρ) := by
  have hd3 := hK.d3
  have hm6 := hK.m6
  have ht60 := hK.t60
  refine Zc_in (q := (6, 0, 1, 1, 2, 0, 0, zk_X6_kindOn)) rfl (Nat.le_of_ble_eq_true rfl) (L := [_, _]) rfl ?_
  rcases hL i hi with ⟨a1, a2, a3⟩ | ⟨a1, a2, a3, a4⟩ | ⟨so, si, a1, a2, a3, a4, a5, a6⟩
  · refine zr_aload_n 1 rfl rfl rfl trivial ?_
    refine zr_getf 4 rfl rfl rfl rfl rfl ?_
    refine zr_iload_n 5 rfl rfl rfl ?_
    refine zr_iald 6 rfl rfl rfl (nI_clamp (by omega)) (vp_in_nI (by omega) (by omega)) ?_
    refine zr_if_eq 25 9 rfl rfl (by decide) (fun c6z => ?_) (fun c6z => ?_)
    · exact absurd (a3.symm.trans c6z) (by decide)
    · refine zr_aload_n 10 rfl rfl rfl trivial ?_
      refine zr_getf 13 rfl rfl rfl rfl rfl ?_
      refine zr_iload_n 14 rfl rfl rfl ?_
      refine zr_iald 15 rfl rfl rfl (nI_clamp (by omega)) (vp_in_nI (by omega) (by omega)) ?_
      refine zr_if_ge 22 18 rfl rfl (by decide) (fun c15z => ?_) (fun c15z => ?_)
      · exact absurd c15z (by rw [a3]; decide)
      · refine zr_iconst 19 (x := (-1)) rfl rfl (by decide) ?_
        refine zr_goto 24 rfl (by decide) ?_
        refine zr_iret rfl rfl ?_
        refine ⟨?_, rfl⟩
        have e : zkon K hp sl i = -1 := by
          unfold zkon
          rw [a1]
          refine if_pos ?_
          unfold zpon
          rw [if_neg (fun q => absurd q.1 (by rw [a2]; decide))]
        rw [e]
  · refine zr_aload_n 1 rfl rfl rfl trivial ?_
    refine zr_getf 4 rfl rfl rfl rfl rfl ?_
    refine zr_iload_n 5 rfl rfl rfl ?_
    refine zr_iald 6 rfl rfl rfl (nI_clamp (by omega)) (vp_in_nI (by omega) (by omega)) ?_
    refine zr_if_eq 25 9 rfl rfl (by decide) (fun c6z => ?_) (fun c6z => ?_)
    · refine zr_aload_n 26 rfl rfl rfl trivial ?_
      refine zr_aload_n 27 rfl rfl rfl trivial ?_
      refine zr_getf 30 rfl rfl rfl rfl rfl ?_
      refine zr_iload_n 31 rfl rfl rfl ?_
      refine zr_iald 32 rfl rfl rfl (nI_clamp (by omega)) (vp_in_nI (by omega) (by omega)) ?_
      refine zr_callv 35 (As := [_]) (u2 := (0, 0)) rfl rfl rfl rfl rfl rfl rfl (Nat.le_of_ble_eq_true rfl) (Nat.le_of_ble_eq_true rfl) (Nat.le_of_ble_eq_true rfl) rfl (c_MisPerson h hK _) rfl (fun v2 w2 h32z => ?_)
      obtain ⟨rfl, rfl⟩ := h32z
      refine zr_if_eq 52 38 rfl rfl (by decide) (fun c35z => ?_) (fun c35z => ?_)
      · replace c35z := zb_0.mp c35z
        rw [a4] at c35z
        refine zr_iconst 53 (x := (-1)) rfl rfl (by decide) ?_
        refine zr_iret rfl rfl ?_
        refine ⟨?_, rfl⟩
        have e : zkon K hp sl i = -1 := by
          unfold zkon
          rw [a1]
          refine if_pos ?_
          unfold zpon
          rw [if_neg c35z]
        rw [e]
      · replace c35z := zb_n0.mp c35z
        rw [a4] at c35z
        obtain ⟨q, hq, eq⟩ := zperI rfl (by omega) c35z
        have a5 : ξ 65 i = nI q := a4.trans eq
        refine zr_aload_n 39 rfl rfl rfl trivial ?_
        refine zr_getf 42 rfl rfl rfl rfl rfl ?_
        refine zr_aload_n 43 rfl rfl rfl trivial ?_
        refine zr_getf 46 rfl rfl rfl rfl rfl ?_
        refine zr_iload_n 47 rfl rfl rfl ?_
        refine zr_iald 48 rfl rfl rfl (nI_clamp (by omega)) (vp_in_nI (by omega) (by omega)) ?_
        rw [a5]
        refine zr_iald 49 rfl rfl rfl (nI_clamp (by omega)) (vp_in_nI (by omega) (by omega)) ?_
        refine zr_goto 53 rfl (by decide) ?_
        refine zr_iret rfl rfl ?_
        refine ⟨?_, rfl⟩
        have e : zkon K hp sl i = K.p q 0 := by
          unfold zkon
          rw [a1]
          have ep : zpon K hp i = nI q := by
            unfold zpon
            rw [if_pos c35z, eq]
          show (if zpon K hp i = -1 then -1 else K.p (zpon K hp i).toNatClampNeg 0) = _
          rw [ep, if_neg (zne1 (nI_pos (by omega))), nI_clamp (by omega)]
        rw [e, h.k0 hq]
    · exact absurd a3 c6z
  · refine zr_aload_n 1 rfl rfl rfl trivial ?_
    refine zr_getf 4 rfl rfl rfl rfl rfl ?_
    refine zr_iload_n 5 rfl rfl rfl ?_
    refine zr_iald 6 rfl rfl rfl (nI_clamp (by omega)) (vp_in_nI (by omega) (by omega)) ?_
    refine zr_if_eq 25 9 rfl rfl (by decide) (fun c6z => ?_) (fun c6z => ?_)
    · exact absurd (a3.symm.trans c6z) (by decide)
    · refine zr_aload_n 10 rfl rfl rfl trivial ?_
      refine zr_getf 13 rfl rfl rfl rfl rfl ?_
      refine zr_iload_n 14 rfl rfl rfl ?_
      refine zr_iald 15 rfl rfl rfl (nI_clamp (by omega)) (vp_in_nI (by omega) (by omega)) ?_
      refine zr_if_ge 22 18 rfl rfl (by decide) (fun c15z => ?_) (fun c15z => ?_)
      · refine zr_bipush 24 (x := 9) rfl rfl (by decide) ?_
        refine zr_iret rfl rfl ?_
        refine ⟨?_, rfl⟩
        have e : zkon K hp sl i = 9 := by
          unfold zkon
          rw [a1]
        rw [e]
      · exact absurd (by rw [a3]; decide) c15z
set_option maxRecDepth 20000 in
set_option maxHeartbeats 1000000 in
theorem c_MisUnder {S : Nat × (Nat → Int32)} {d n : Nat} {ξ : Nat → Nat → Int32} {ρ : zRho} (k a : Int32) : Zc S (d + 1) jX6_isUnder [.int k, .int a] (zWof n ξ ρ) (fun r w => r = some (.int (zb (zund k a))) ∧ w = zWof n ξ ρ) := by
  refine Zc_in (q := (6, 2, 3, 2, 2, 0, 0, zk_X6_isUnder)) rfl (Nat.le_of_ble_eq_true rfl) (L := [_, _]) rfl ?_
  refine zr_iload_n 1 rfl rfl rfl ?_
  refine zr_if_eq 29 4 rfl rfl (by decide) (fun c1z => ?_) (fun c1z => ?_)
  · refine zr_iconst 30 (x := 1) rfl rfl (by decide) ?_
    refine zr_goto 34 rfl (by decide) ?_
    refine zr_zret rfl rfl (Or.inr rfl) ?_
    refine ⟨?_, rfl⟩
    first | (rw [zb_t (show zund k a by unfold zund; simp_all)]; done) | (rw [zb_f (show ¬ zund k a by unfold zund; simp_all)])
  · refine zr_iload_n 5 rfl rfl rfl ?_
    refine zr_iload_n 6 rfl rfl rfl ?_
    refine zr_icmp_eq 29 9 rfl rfl (by decide) (fun c6z => ?_) (fun c6z => ?_)
    · refine zr_iconst 30 (x := 1) rfl rfl (by decide) ?_
      refine zr_goto 34 rfl (by decide) ?_
      refine zr_zret rfl rfl (Or.inr rfl) ?_
      refine ⟨?_, rfl⟩
      first | (rw [zb_t (show zund k a by unfold zund; simp_all)]; done) | (rw [zb_f (show ¬ zund k a by unfold zund; simp_all)])
    · refine zr_iload_n 10 rfl rfl rfl ?_
      refine zr_iconst 11 (x := 1) rfl rfl (by decide) ?_
      refine zr_icmp_ne 19 14 rfl rfl (by decide) (fun c11z => ?_) (fun c11z => ?_)
      · refine zr_iload_n 20 rfl rfl rfl ?_
        refine zr_iconst 21 (x := 2) rfl rfl (by decide) ?_
        refine zr_icmp_ne 33 24 rfl rfl (by decide) (fun c21z => ?_) (fun c21z => ?_)
        · refine zr_iconst 34 (x := 0) rfl rfl (by decide) ?_
          refine zr_zret rfl rfl (Or.inl rfl) ?_
          refine ⟨?_, rfl⟩
          first | (rw [zb_t (show zund k a by unfold zund; simp_all)]; done) | (rw [zb_f (show ¬ zund k a by unfold zund; simp_all)])
        · refine zr_iload_n 25 rfl rfl rfl ?_
          refine zr_iconst 26 (x := 4) rfl rfl (by decide) ?_
          refine zr_icmp_ne 33 29 rfl rfl (by decide) (fun c26z => ?_) (fun c26z => ?_)
          · refine zr_iconst 34 (x := 0) rfl rfl (by decide) ?_
            refine zr_zret rfl rfl (Or.inl rfl) ?_
            refine ⟨?_, rfl⟩
            first | (rw [zb_t (show zund k a by unfold zund; simp_all)]; done) | (rw [zb_f (show ¬ zund k a by unfold zund; simp_all)])
          · refine zr_iconst 30 (x := 1) rfl rfl (by decide) ?_
            refine zr_goto 34 rfl (by decide) ?_
            refine zr_zret rfl rfl (Or.inr rfl) ?_
            refine ⟨?_, rfl⟩
            first | (rw [zb_t (show zund k a by unfold zund; simp_all)]; done) | (rw [zb_f (show ¬ zund k a by unfold zund; simp_all)])
      · refine zr_iload_n 15 rfl rfl rfl ?_
        refine zr_iconst 16 (x := 3) rfl rfl (by decide) ?_
        refine zr_icmp_eq 29 19 rfl rfl (by decide) (fun c16z => ?_) (fun c16z => ?_)
        · refine zr_iconst 30 (x := 1) rfl rfl (by decide) ?_
          refine zr_goto 34 rfl (by decide) ?_
          refine zr_zret rfl rfl (Or.inr rfl) ?_
          refine ⟨?_, rfl⟩
          first | (rw [zb_t (show zund k a by unfold zund; simp_all)]; done) | (rw [zb_f (show ¬ zund k a by unfold zund; simp_all)])
        · refine zr_iload_n 20 rfl rfl rfl ?_
          refine zr_iconst 21 (x := 2) rfl rfl (by decide) ?_
          refine zr_icmp_ne 33 24 rfl rfl (by decide) (fun c21z => ?_) (fun c21z => ?_)
          · refine zr_iconst 34 (x := 0) rfl rfl (by decide) ?_
            refine zr_zret rfl rfl (Or.inl rfl) ?_
            refine ⟨?_, rfl⟩
            first | (rw [zb_t (show zund k a by unfold zund; simp_all)]; done) | (rw [zb_f (show ¬ zund k a by unfold zund; simp_all)])
          · refine zr_iload_n 25 rfl rfl rfl ?_
            refine zr_iconst 26 (x := 4) rfl rfl (by decide) ?_
            refine zr_icmp_ne 33 29 rfl rfl (by decide) (fun c26z => ?_) (fun c26z => ?_)
            · refine zr_iconst 34 (x := 0) rfl rfl (by decide) ?_
              refine zr_zret rfl rfl (Or.inl rfl) ?_
              refine ⟨?_, rfl⟩
              first | (rw [zb_t (show zund k a by unfold zund; simp_all)]; done) | (rw [zb_f (show ¬ zund k a by unfold zund; simp_all)])
            · refine zr_iconst 30 (x := 1) rfl rfl (by decide) ?_
              refine zr_goto 34 rfl (by decide) ?_
              refine zr_zret rfl rfl (Or.inr rfl) ?_
              refine ⟨?_, rfl⟩
              first | (rw [zb_t (show zund k a by unfold zund; simp_all)]; done) | (rw [zb_f (show ¬ zund k a by unfold zund; simp_all)])
theorem zr1013 (x : Int32) : (10 ≤ x ∧ x ≤ 13) ↔ zasr x := by
  unfold zasr
  rw [Int32.le_iff_toInt_le, Int32.le_iff_toInt_le, Int32.lt_iff_toInt_lt, show (13 : Int32).toInt = 13 by decide, show (14 : Int32).toInt = 14 by decide]
  omega
theorem zas10 {a s : Int32} (hs : 0 ≤ s ∧ s ≤ 3) : a = 10 + s ↔ (zasr a ∧ s = a - 10) := by
  have h0 := Int32.le_iff_toInt_le.mp hs.1
  have h3 := Int32.le_iff_toInt_le.mp hs.2
  rw [zI0] at h0
  rw [show (3 : Int32).toInt = 3 by decide] at h3
  have t : (10 : Int32).toInt = 10 := by decide
  constructor
  · intro e
    have e2 : a.toInt = 10 + s.toInt := by rw [e, zTadd (by omega) (by omega), t]
    refine ⟨⟨Int32.le_iff_toInt_le.mpr (by omega), Int32.lt_iff_toInt_lt.mpr (by rw [show (14 : Int32).toInt = 14 by decide]; omega)⟩, Int32.toInt_inj.mp ?_⟩
    rw [zTsub (by omega) (by omega), t]
    omega
  · rintro ⟨⟨a1, a2⟩, e⟩
    have b1 := Int32.le_iff_toInt_le.mp a1
    have b2 := Int32.lt_iff_toInt_lt.mp a2
    rw [show (14 : Int32).toInt = 14 by decide] at b2
    have e2 : s.toInt = a.toInt - 10 := by rw [e, zTsub (by omega) (by omega), t]
    refine Int32.toInt_inj.mp ?_
    rw [zTadd (by omega) (by omega), t]
    omega
theorem zas_lt {a : Int32} (h : zasr a ∨ (0 ≤ a ∧ a < 6)) : ¬ 10 ≤ a ↔ ¬ zasr a := by
  rcases h with q | ⟨q1, q2⟩
  · exact ⟨fun z => absurd q.1 z, fun z => absurd q z⟩
  · have n1 : ¬ 10 ≤ a := fun z => by
      have a1 := Int32.le_iff_toInt_le.mp z
      have a2 := Int32.lt_iff_toInt_lt.mp q2
      rw [show (10 : Int32).toInt = 10 by decide] at a1
      rw [show (6 : Int32).toInt = 6 by decide] at a2
      omega
    exact ⟨fun z y => z y.1, fun _ => n1⟩
set_option maxRecDepth 20000 in
set_option maxHeartbeats 1000000 in
theorem c_Mtaken {S : Nat × (Nat → Int32)} {d n : Nat} {ξ : Nat → Nat → Int32} {ρ : zRho} {K : zCs} (h : zMR ξ 0 K) (hK : zOK K) {hp : Nat → Int32} {sl : zSl} (hL : zML ξ hp sl) (x a : Int32) : Zc S (d + 4) jX6_taken [.ref 42, .int x, .int a] (zWof n ξ ρ) (fun r w => r = some (.int (ztakenF K hp sl x a)) ∧ w = zWof n ξ ρ) := by
  have hd3 := hK.d3
  have hm6 := hK.m6
  have ht60 := hK.t60
  refine Zc_in (q := (6, 0, 1, 2, 4, 0, 0, zk_X6_taken)) rfl (Nat.le_of_ble_eq_true rfl) (L := [_, _, _, _]) rfl ?_
  refine zr_iload_n 1 rfl rfl rfl ?_
  refine zr_calls 4 (As := [_]) (u2 := (0, 0)) rfl rfl rfl rfl rfl rfl rfl (Nat.le_of_ble_eq_true rfl) (Nat.le_of_ble_eq_true rfl) (Nat.le_of_ble_eq_true rfl) (c_MisShelf _) rfl (fun v2 w2 h1z => ?_)
  obtain ⟨rfl, rfl⟩ := h1z
  refine zr_if_eq 27 7 rfl rfl (by decide) (fun c4z => ?_) (fun c4z => ?_)
  · replace c4z := zb_0.mp c4z
    refine zr_iconst 28 (x := (-1)) rfl rfl (by decide) ?_
    refine zr_iret rfl rfl ?_
    refine ⟨?_, rfl⟩
    rw [show ztakenF K hp sl x a = _ from if_pos (fun q => c4z q.1)]
  · replace c4z := zb_n0.mp c4z
    obtain ⟨i, hi, rfl⟩ := zperI (m := 4) (M := 4) rfl (by decide) c4z
    refine zr_iload_n 8 rfl rfl rfl ?_
    refine zr_iconst 9 (x := 0) rfl rfl (by decide) ?_
    refine zr_iconst 10 (x := 5) rfl rfl (by decide) ?_
    refine zr_calls 13 (As := [_, _, _]) (u2 := (0, 0)) rfl rfl rfl rfl rfl rfl rfl (Nat.le_of_ble_eq_true rfl) (Nat.le_of_ble_eq_true rfl) (Nat.le_of_ble_eq_true rfl) (c_Min _ _ _) rfl (fun v2 w2 h10z => ?_)
    obtain ⟨rfl, rfl⟩ := h10z
    refine zr_if_ne 29 16 rfl rfl (by decide) (fun c13z => ?_) (fun c13z => ?_)
    · replace c13z := zb_n0.mp c13z
      rw [zr06] at c13z
      have hc : zasr a ∨ (0 ≤ a ∧ a < 6) := Or.inr c13z
      rcases hL i hi with ⟨a1, a2, a3⟩ | ⟨a1, a2, a3, a4⟩ | ⟨so, si, a1, a2, a3, a4, a5, a6⟩
      · have ek : zkon K hp sl i = -1 := by
          unfold zkon
          rw [a1]
          refine if_pos ?_
          unfold zpon
          rw [if_neg (fun q => absurd q.1 (by rw [a2]; decide))]
        have ep : zpon K hp i = -1 := by
          unfold zpon
          rw [if_neg (fun q => absurd q.1 (by rw [a2]; decide))]
        refine zr_aload_n 30 rfl rfl rfl trivial ?_
        refine zr_iload_n 31 rfl rfl rfl ?_
        refine zr_callv 34 (As := [_]) (u2 := (0, 0)) rfl rfl rfl rfl rfl rfl rfl (Nat.le_of_ble_eq_true rfl) (Nat.le_of_ble_eq_true rfl) (Nat.le_of_ble_eq_true rfl) rfl (c_MkindOn h hK hL hi) rfl (fun v2 w2 h31z => ?_)
        obtain ⟨rfl, rfl⟩ := h31z
        refine zr_istore_n 35 (L2 := [_, _, _, _]) rfl rfl (Nat.le_of_ble_eq_true rfl) (by first | exact trivial | exact rfl) rfl ?_
        refine zr_iload_n 36 rfl rfl rfl ?_
        refine zr_if_ge 42 39 rfl rfl (by decide) (fun c36z => ?_) (fun c36z => ?_)
        · exact absurd c36z (by rw [ek]; decide)
        · refine zr_bipush 41 (x := (-11)) rfl rfl (by decide) ?_
          refine zr_iret rfl rfl ?_
          refine ⟨?_, rfl⟩
          have e : ztakenF K hp sl (nI i) a = -11 := by
            unfold ztakenF
            rw [if_neg (fun q => q ⟨c4z, hc⟩), nI_clamp (by omega), a1]
            exact if_pos ep
          rw [e]
      · by_cases hp2 : 0 ≤ hp i ∧ hp i < nI K.M
        · obtain ⟨q, hq, eq⟩ := zperI rfl (by omega) hp2
          have ep : zpon K hp i = nI q := by
            unfold zpon
            rw [if_pos hp2, eq]
          have hk5 := (hK.hp q hq).h0
          obtain ⟨kk, hkk, ekk⟩ : ∃ kk, kk ≤ 5 ∧ K.p q 0 = nI kk := ⟨(K.p q 0).toInt.toNat, by omega, Int32.toInt_inj.mp (by rw [nI_toInt (by omega)]; omega)⟩
          have ek : zkon K hp sl i = nI kk := by
            unfold zkon
            rw [a1]
            show (if zpon K hp i = -1 then -1 else K.p (zpon K hp i).toNatClampNeg 0) = _
            rw [ep, if_neg (zne1 (nI_pos (by omega))), nI_clamp (by omega), ekk]
          refine zr_aload_n 30 rfl rfl rfl trivial ?_
          refine zr_iload_n 31 rfl rfl rfl ?_
          refine zr_callv 34 (As := [_]) (u2 := (0, 0)) rfl rfl rfl rfl rfl rfl rfl (Nat.le_of_ble_eq_true rfl) (Nat.le_of_ble_eq_true rfl) (Nat.le_of_ble_eq_true rfl) rfl (c_MkindOn h hK hL hi) rfl (fun v2 w2 h31z => ?_)
          obtain ⟨rfl, rfl⟩ := h31z
          rw [ek]
          refine zr_istore_n 35 (L2 := [_, _, _, _]) rfl rfl (Nat.le_of_ble_eq_true rfl) (by first | exact trivial | exact rfl) rfl ?_
          refine zr_iload_n 36 rfl rfl rfl ?_
          refine zr_if_ge 42 39 rfl rfl (by decide) (fun c36z => ?_) (fun c36z => ?_)
          · refine zr_iload_n 43 rfl rfl rfl ?_
            refine zr_bipush 45 (x := 9) rfl rfl (by decide) ?_
            refine zr_icmp_ne 73 48 rfl rfl (by decide) (fun c45z => ?_) (fun c45z => ?_)
            · refine zr_iload_n 74 rfl rfl rfl ?_
              refine zr_bipush 76 (x := 10) rfl rfl (by decide) ?_
              refine zr_icmp_ge 96 79 rfl rfl (by decide) (fun c76z => ?_) (fun c76z => ?_)
              · have ha : zasr a := Decidable.byContradiction (fun z => absurd c76z ((zas_lt hc).mpr z))
                refine zr_bipush 98 (x := (-13)) rfl rfl (by decide) ?_
                refine zr_iret rfl rfl ?_
                refine ⟨?_, rfl⟩
                have e : ztakenF K hp sl (nI i) a = -13 := by
                  unfold ztakenF
                  rw [if_neg (fun q => q ⟨c4z, hc⟩), nI_clamp (by omega), a1]
                  show (if zpon K hp i = -1 then -11 else if ¬ zasr _ ∧ zofk 6 (K.p (zpon K hp i).toNatClampNeg 0) _ = true then zpon K hp i else -13) = _
                  rw [ep, if_neg (zne1 (nI_pos (by omega))), nI_clamp (by omega), ekk, if_neg (fun z => z.1 ha)]
                rw [e]
              · have ha : ¬ zasr a := (zas_lt hc).mp c76z
                obtain ⟨aa, haa, rfl⟩ : ∃ aa, aa ≤ 5 ∧ a = nI aa := by
                  obtain ⟨z, z1, z2⟩ := zbetI (k := 5) rfl (by decide) (hc.resolve_left ha).1 ((zr06 a).mpr (hc.resolve_left ha)).2
                  exact ⟨z, z1, z2⟩
                refine zr_iload_n 80 rfl rfl rfl ?_
                refine zr_iload_n 81 rfl rfl rfl ?_
                refine zr_calls 84 (As := [_, _]) (u2 := (0, 0)) rfl rfl rfl rfl rfl rfl rfl (Nat.le_of_ble_eq_true rfl) (Nat.le_of_ble_eq_true rfl) (Nat.le_of_ble_eq_true rfl) (c_MisUnder _ _) rfl (fun v2 w2 h81z => ?_)
                obtain ⟨rfl, rfl⟩ := h81z
                refine zr_if_eq 96 87 rfl rfl (by decide) (fun c84z => ?_) (fun c84z => ?_)
                · replace c84z := zb_0.mp c84z
                  refine zr_bipush 98 (x := (-13)) rfl rfl (by decide) ?_
                  refine zr_iret rfl rfl ?_
                  refine ⟨?_, rfl⟩
                  have e : ztakenF K hp sl (nI i) (nI aa) = -13 := by
                    unfold ztakenF
                    rw [if_neg (fun q => q ⟨c4z, hc⟩), nI_clamp (by omega), a1]
                    show (if zpon K hp i = -1 then -11 else if ¬ zasr _ ∧ zofk 6 (K.p (zpon K hp i).toNatClampNeg 0) _ = true then zpon K hp i else -13) = _
                    rw [ep, if_neg (zne1 (nI_pos (by omega))), nI_clamp (by omega), ekk, if_neg (fun z => c84z ((zund_of kk hkk aa haa).mpr z.2))]
                  rw [e]
                · replace c84z := zb_n0.mp c84z
                  refine zr_aload_n 88 rfl rfl rfl trivial ?_
                  refine zr_getf 91 rfl rfl rfl rfl rfl ?_
                  refine zr_iload_n 92 rfl rfl rfl ?_
                  refine zr_iald 93 rfl rfl rfl (nI_clamp (by omega)) (vp_in_nI (by omega) (by omega)) ?_
                  refine zr_goto 98 rfl (by decide) ?_
                  refine zr_iret rfl rfl ?_
                  refine ⟨?_, rfl⟩
                  have e : ztakenF K hp sl (nI i) (nI aa) = nI q := by
                    unfold ztakenF
                    rw [if_neg (fun q => q ⟨c4z, hc⟩), nI_clamp (by omega), a1]
                    show (if zpon K hp i = -1 then -11 else if ¬ zasr _ ∧ zofk 6 (K.p (zpon K hp i).toNatClampNeg 0) _ = true then zpon K hp i else -13) = _
                    rw [ep, if_neg (zne1 (nI_pos (by omega))), nI_clamp (by omega), ekk, if_pos ⟨ha, (zund_of kk hkk aa haa).mp c84z⟩]
                  rw [e, a4, eq]
            · exact absurd c45z (fun z => absurd ((nI_eq (a := kk) (b := 9) (by omega) (by decide)).mp z) (by omega))
          · exact absurd (nI_pos' (by omega)) c36z
        · have ep : zpon K hp i = -1 := by
            unfold zpon
            rw [if_neg hp2]
          have ek : zkon K hp sl i = -1 := by
            unfold zkon
            rw [a1]
            exact if_pos ep
          refine zr_aload_n 30 rfl rfl rfl trivial ?_
          refine zr_iload_n 31 rfl rfl rfl ?_
          refine zr_callv 34 (As := [_]) (u2 := (0, 0)) rfl rfl rfl rfl rfl rfl rfl (Nat.le_of_ble_eq_true rfl) (Nat.le_of_ble_eq_true rfl) (Nat.le_of_ble_eq_true rfl) rfl (c_MkindOn h hK hL hi) rfl (fun v2 w2 h31z => ?_)
          obtain ⟨rfl, rfl⟩ := h31z
          refine zr_istore_n 35 (L2 := [_, _, _, _]) rfl rfl (Nat.le_of_ble_eq_true rfl) (by first | exact trivial | exact rfl) rfl ?_
          refine zr_iload_n 36 rfl rfl rfl ?_
          refine zr_if_ge 42 39 rfl rfl (by decide) (fun c36z => ?_) (fun c36z => ?_)
          · exact absurd c36z (by rw [ek]; decide)
          · refine zr_bipush 41 (x := (-11)) rfl rfl (by decide) ?_
            refine zr_iret rfl rfl ?_
            refine ⟨?_, rfl⟩
            have e : ztakenF K hp sl (nI i) a = -11 := by
              unfold ztakenF
              rw [if_neg (fun q => q ⟨c4z, hc⟩), nI_clamp (by omega), a1]
              exact if_pos ep
            rw [e]
      · have ek : zkon K hp sl i = 9 := by
          unfold zkon
          rw [a1]
        refine zr_aload_n 30 rfl rfl rfl trivial ?_
        refine zr_iload_n 31 rfl rfl rfl ?_
        refine zr_callv 34 (As := [_]) (u2 := (0, 0)) rfl rfl rfl rfl rfl rfl rfl (Nat.le_of_ble_eq_true rfl) (Nat.le_of_ble_eq_true rfl) (Nat.le_of_ble_eq_true rfl) rfl (c_MkindOn h hK hL hi) rfl (fun v2 w2 h31z => ?_)
        obtain ⟨rfl, rfl⟩ := h31z
        refine zr_istore_n 35 (L2 := [_, _, _, _]) rfl rfl (Nat.le_of_ble_eq_true rfl) (by first | exact trivial | exact rfl) rfl ?_
        refine zr_iload_n 36 rfl rfl rfl ?_
        refine zr_if_ge 42 39 rfl rfl (by decide) (fun c36z => ?_) (fun c36z => ?_)
        · refine zr_iload_n 43 rfl rfl rfl ?_
          refine zr_bipush 45 (x := 9) rfl rfl (by decide) ?_
          refine zr_icmp_ne 73 48 rfl rfl (by decide) (fun c45z => ?_) (fun c45z => ?_)
          · exact absurd ek c45z
          · refine zr_iload_n 49 rfl rfl rfl ?_
            refine zr_bipush 51 (x := 10) rfl rfl (by decide) ?_
            refine zr_aload_n 52 rfl rfl rfl trivial ?_
            refine zr_getf 55 rfl rfl rfl rfl rfl ?_
            refine zr_iload_n 56 rfl rfl rfl ?_
            refine zr_iald 57 rfl rfl rfl (nI_clamp (by omega)) (vp_in_nI (by omega) (by omega)) ?_
            refine zr_iadd 58 rfl rfl ?_
            refine zr_icmp_ne 70 61 rfl rfl (by decide) (fun c58z => ?_) (fun c58z => ?_)
            · refine zr_bipush 72 (x := (-13)) rfl rfl (by decide) ?_
              refine zr_iret rfl rfl ?_
              refine ⟨?_, rfl⟩
              have e : ztakenF K hp sl (nI i) a = -13 := by
                unfold ztakenF
                rw [if_neg (fun q => q ⟨c4z, hc⟩), nI_clamp (by omega), a1]
                exact if_neg (fun z => c58z (by rw [a4]; exact (zas10 a5).mpr z))
              rw [e]
            · refine zr_aload_n 62 rfl rfl rfl trivial ?_
              refine zr_getf 65 rfl rfl rfl rfl rfl ?_
              refine zr_iload_n 66 rfl rfl rfl ?_
              refine zr_iald 67 rfl rfl rfl (nI_clamp (by omega)) (vp_in_nI (by omega) (by omega)) ?_
              refine zr_goto 72 rfl (by decide) ?_
              refine zr_iret rfl rfl ?_
              refine ⟨?_, rfl⟩
              have e : ztakenF K hp sl (nI i) a = nI si := by
                unfold ztakenF
                rw [if_neg (fun q => q ⟨c4z, hc⟩), nI_clamp (by omega), a1]
                exact if_pos ((zas10 a5).mp (by rw [← a4]; exact c58z))
              rw [e, a6]
        · exact absurd (by rw [ek]; decide) c36z
    · replace c13z := zb_0.mp c13z
      rw [zr06] at c13z
      refine zr_iload_n 17 rfl rfl rfl ?_
      refine zr_bipush 19 (x := 10) rfl rfl (by decide) ?_
      refine zr_bipush 21 (x := 13) rfl rfl (by decide) ?_
      refine zr_calls 24 (As := [_, _, _]) (u2 := (0, 0)) rfl rfl rfl rfl rfl rfl rfl (Nat.le_of_ble_eq_true rfl) (Nat.le_of_ble_eq_true rfl) (Nat.le_of_ble_eq_true rfl) (c_Min _ _ _) rfl (fun v2 w2 h21z => ?_)
      obtain ⟨rfl, rfl⟩ := h21z
      refine zr_if_ne 29 27 rfl rfl (by decide) (fun c24z => ?_) (fun c24z => ?_)
      · replace c24z := zb_n0.mp c24z
        rw [zr1013] at c24z
        have hc : zasr a ∨ (0 ≤ a ∧ a < 6) := Or.inl c24z
        rcases hL i hi with ⟨a1, a2, a3⟩ | ⟨a1, a2, a3, a4⟩ | ⟨so, si, a1, a2, a3, a4, a5, a6⟩
        · have ek : zkon K hp sl i = -1 := by
            unfold zkon
            rw [a1]
            refine if_pos ?_
            unfold zpon
            rw [if_neg (fun q => absurd q.1 (by rw [a2]; decide))]
          have ep : zpon K hp i = -1 := by
            unfold zpon
            rw [if_neg (fun q => absurd q.1 (by rw [a2]; decide))]
          refine zr_aload_n 30 rfl rfl rfl trivial ?_
          refine zr_iload_n 31 rfl rfl rfl ?_
          refine zr_callv 34 (As := [_]) (u2 := (0, 0)) rfl rfl rfl rfl rfl rfl rfl (Nat.le_of_ble_eq_true rfl) (Nat.le_of_ble_eq_true rfl) (Nat.le_of_ble_eq_true rfl) rfl (c_MkindOn h hK hL hi) rfl (fun v2 w2 h31z => ?_)
          obtain ⟨rfl, rfl⟩ := h31z
          refine zr_istore_n 35 (L2 := [_, _, _, _]) rfl rfl (Nat.le_of_ble_eq_true rfl) (by first | exact trivial | exact rfl) rfl ?_
          refine zr_iload_n 36 rfl rfl rfl ?_
          refine zr_if_ge 42 39 rfl rfl (by decide) (fun c36z => ?_) (fun c36z => ?_)
          · exact absurd c36z (by rw [ek]; decide)
          · refine zr_bipush 41 (x := (-11)) rfl rfl (by decide) ?_
            refine zr_iret rfl rfl ?_
            refine ⟨?_, rfl⟩
            have e : ztakenF K hp sl (nI i) a = -11 := by
              unfold ztakenF
              rw [if_neg (fun q => q ⟨c4z, hc⟩), nI_clamp (by omega), a1]
              exact if_pos ep
            rw [e]
        · by_cases hp2 : 0 ≤ hp i ∧ hp i < nI K.M
          · obtain ⟨q, hq, eq⟩ := zperI rfl (by omega) hp2
            have ep : zpon K hp i = nI q := by
              unfold zpon
              rw [if_pos hp2, eq]
            have hk5 := (hK.hp q hq).h0
            obtain ⟨kk, hkk, ekk⟩ : ∃ kk, kk ≤ 5 ∧ K.p q 0 = nI kk := ⟨(K.p q 0).toInt.toNat, by omega, Int32.toInt_inj.mp (by rw [nI_toInt (by omega)]; omega)⟩
            have ek : zkon K hp sl i = nI kk := by
              unfold zkon
              rw [a1]
              show (if zpon K hp i = -1 then -1 else K.p (zpon K hp i).toNatClampNeg 0) = _
              rw [ep, if_neg (zne1 (nI_pos (by omega))), nI_clamp (by omega), ekk]
            refine zr_aload_n 30 rfl rfl rfl trivial ?_
            refine zr_iload_n 31 rfl rfl rfl ?_
            refine zr_callv 34 (As := [_]) (u2 := (0, 0)) rfl rfl rfl rfl rfl rfl rfl (Nat.le_of_ble_eq_true rfl) (Nat.le_of_ble_eq_true rfl) (Nat.le_of_ble_eq_true rfl) rfl (c_MkindOn h hK hL hi) rfl (fun v2 w2 h31z => ?_)
            obtain ⟨rfl, rfl⟩ := h31z
            rw [ek]
            refine zr_istore_n 35 (L2 := [_, _, _, _]) rfl rfl (Nat.le_of_ble_eq_true rfl) (by first | exact trivial | exact rfl) rfl ?_
            refine zr_iload_n 36 rfl rfl rfl ?_
            refine zr_if_ge 42 39 rfl rfl (by decide) (fun c36z => ?_) (fun c36z => ?_)
            · refine zr_iload_n 43 rfl rfl rfl ?_
              refine zr_bipush 45 (x := 9) rfl rfl (by decide) ?_
              refine zr_icmp_ne 73 48 rfl rfl (by decide) (fun c45z => ?_) (fun c45z => ?_)
              · refine zr_iload_n 74 rfl rfl rfl ?_
                refine zr_bipush 76 (x := 10) rfl rfl (by decide) ?_
                refine zr_icmp_ge 96 79 rfl rfl (by decide) (fun c76z => ?_) (fun c76z => ?_)
                · have ha : zasr a := Decidable.byContradiction (fun z => absurd c76z ((zas_lt hc).mpr z))
                  refine zr_bipush 98 (x := (-13)) rfl rfl (by decide) ?_
                  refine zr_iret rfl rfl ?_
                  refine ⟨?_, rfl⟩
                  have e : ztakenF K hp sl (nI i) a = -13 := by
                    unfold ztakenF
                    rw [if_neg (fun q => q ⟨c4z, hc⟩), nI_clamp (by omega), a1]
                    show (if zpon K hp i = -1 then -11 else if ¬ zasr _ ∧ zofk 6 (K.p (zpon K hp i).toNatClampNeg 0) _ = true then zpon K hp i else -13) = _
                    rw [ep, if_neg (zne1 (nI_pos (by omega))), nI_clamp (by omega), ekk, if_neg (fun z => z.1 ha)]
                  rw [e]
                · have ha : ¬ zasr a := (zas_lt hc).mp c76z
                  obtain ⟨aa, haa, rfl⟩ : ∃ aa, aa ≤ 5 ∧ a = nI aa := by
                    obtain ⟨z, z1, z2⟩ := zbetI (k := 5) rfl (by decide) (hc.resolve_left ha).1 ((zr06 a).mpr (hc.resolve_left ha)).2
                    exact ⟨z, z1, z2⟩
                  refine zr_iload_n 80 rfl rfl rfl ?_
                  refine zr_iload_n 81 rfl rfl rfl ?_
                  refine zr_calls 84 (As := [_, _]) (u2 := (0, 0)) rfl rfl rfl rfl rfl rfl rfl (Nat.le_of_ble_eq_true rfl) (Nat.le_of_ble_eq_true rfl) (Nat.le_of_ble_eq_true rfl) (c_MisUnder _ _) rfl (fun v2 w2 h81z => ?_)
                  obtain ⟨rfl, rfl⟩ := h81z
                  refine zr_if_eq 96 87 rfl rfl (by decide) (fun c84z => ?_) (fun c84z => ?_)
                  · replace c84z := zb_0.mp c84z
                    refine zr_bipush 98 (x := (-13)) rfl rfl (by decide) ?_
                    refine zr_iret rfl rfl ?_
                    refine ⟨?_, rfl⟩
                    have e : ztakenF K hp sl (nI i) (nI aa) = -13 := by
                      unfold ztakenF
                      rw [if_neg (fun q => q ⟨c4z, hc⟩), nI_clamp (by omega), a1]
                      show (if zpon K hp i = -1 then -11 else if ¬ zasr _ ∧ zofk 6 (K.p (zpon K hp i).toNatClampNeg 0) _ = true then zpon K hp i else -13) = _
                      rw [ep, if_neg (zne1 (nI_pos (by omega))), nI_clamp (by omega), ekk, if_neg (fun z => c84z ((zund_of kk hkk aa haa).mpr z.2))]
                    rw [e]
                  · replace c84z := zb_n0.mp c84z
                    refine zr_aload_n 88 rfl rfl rfl trivial ?_
                    refine zr_getf 91 rfl rfl rfl rfl rfl ?_
                    refine zr_iload_n 92 rfl rfl rfl ?_
                    refine zr_iald 93 rfl rfl rfl (nI_clamp (by omega)) (vp_in_nI (by omega) (by omega)) ?_
                    refine zr_goto 98 rfl (by decide) ?_
                    refine zr_iret rfl rfl ?_
                    refine ⟨?_, rfl⟩
                    have e : ztakenF K hp sl (nI i) (nI aa) = nI q := by
                      unfold ztakenF
                      rw [if_neg (fun q => q ⟨c4z, hc⟩), nI_clamp (by omega), a1]
                      show (if zpon K hp i = -1 then -11 else if ¬ zasr _ ∧ zofk 6 (K.p (zpon K hp i).toNatClampNeg 0) _ = true then zpon K hp i else -13) = _
                      rw [ep, if_neg (zne1 (nI_pos (by omega))), nI_clamp (by omega), ekk, if_pos ⟨ha, (zund_of kk hkk aa haa).mp c84z⟩]
                    rw [e, a4, eq]
              · exact absurd c45z (fun z => absurd ((nI_eq (a := kk) (b := 9) (by omega) (by decide)).mp z) (by omega))
            · exact absurd (nI_pos' (by omega)) c36z
          · have ep : zpon K hp i = -1 := by
              unfold zpon
              rw [if_neg hp2]
            have ek : zkon K hp sl i = -1 := by
              unfold zkon
              rw [a1]
              exact if_pos ep
            refine zr_aload_n 30 rfl rfl rfl trivial ?_
            refine zr_iload_n 31 rfl rfl rfl ?_
            refine zr_callv 34 (As := [_]) (u2 := (0, 0)) rfl rfl rfl rfl rfl rfl rfl (Nat.le_of_ble_eq_true rfl) (Nat.le_of_ble_eq_true rfl) (Nat.le_of_ble_eq_true rfl) rfl (c_MkindOn h hK hL hi) rfl (fun v2 w2 h31z => ?_)
            obtain ⟨rfl, rfl⟩ := h31z
            refine zr_istore_n 35 (L2 := [_, _, _, _]) rfl rfl (Nat.le_of_ble_eq_true rfl) (by first | exact trivial | exact rfl) rfl ?_
            refine zr_iload_n 36 rfl rfl rfl ?_
            refine zr_if_ge 42 39 rfl rfl (by decide) (fun c36z => ?_) (fun c36z => ?_)
            · exact absurd c36z (by rw [ek]; decide)
            · refine zr_bipush 41 (x := (-11)) rfl rfl (by decide) ?_
              refine zr_iret rfl rfl ?_
              refine ⟨?_, rfl⟩
              have e : ztakenF K hp sl (nI i) a = -11 := by
                unfold ztakenF
                rw [if_neg (fun q => q ⟨c4z, hc⟩), nI_clamp (by omega), a1]
                exact if_pos ep
              rw [e]
        · have ek : zkon K hp sl i = 9 := by
            unfold zkon
            rw [a1]
          refine zr_aload_n 30 rfl rfl rfl trivial ?_
          refine zr_iload_n 31 rfl rfl rfl ?_
          refine zr_callv 34 (As := [_]) (u2 := (0, 0)) rfl rfl rfl rfl rfl rfl rfl (Nat.le_of_ble_eq_true rfl) (Nat.le_of_ble_eq_true rfl) (Nat.le_of_ble_eq_true rfl) rfl (c_MkindOn h hK hL hi) rfl (fun v2 w2 h31z => ?_)
          obtain ⟨rfl, rfl⟩ := h31z
          refine zr_istore_n 35 (L2 := [_, _, _, _]) rfl rfl (Nat.le_of_ble_eq_true rfl) (by first | exact trivial | exact rfl) rfl ?_
          refine zr_iload_n 36 rfl rfl rfl ?_
          refine zr_if_ge 42 39 rfl rfl (by decide) (fun c36z => ?_) (fun c36z => ?_)
          · refine zr_iload_n 43 rfl rfl rfl ?_
            refine zr_bipush 45 (x := 9) rfl rfl (by decide) ?_
            refine zr_icmp_ne 73 48 rfl rfl (by decide) (fun c45z => ?_) (fun c45z => ?_)
            · exact absurd ek c45z
            · refine zr_iload_n 49 rfl rfl rfl ?_
              refine zr_bipush 51 (x := 10) rfl rfl (by decide) ?_
              refine zr_aload_n 52 rfl rfl rfl trivial ?_
              refine zr_getf 55 rfl rfl rfl rfl rfl ?_
              refine zr_iload_n 56 rfl rfl rfl ?_
              refine zr_iald 57 rfl rfl rfl (nI_clamp (by omega)) (vp_in_nI (by omega) (by omega)) ?_
              refine zr_iadd 58 rfl rfl ?_
              refine zr_icmp_ne 70 61 rfl rfl (by decide) (fun c58z => ?_) (fun c58z => ?_)
              · refine zr_bipush 72 (x := (-13)) rfl rfl (by decide) ?_
                refine zr_iret rfl rfl ?_
                refine ⟨?_, rfl⟩
                have e : ztakenF K hp sl (nI i) a = -13 := by
                  unfold ztakenF
                  rw [if_neg (fun q => q ⟨c4z, hc⟩), nI_clamp (by omega), a1]
                  exact if_neg (fun z => c58z (by rw [a4]; exact (zas10 a5).mpr z))
                rw [e]
              · refine zr_aload_n 62 rfl rfl rfl trivial ?_
                refine zr_getf 65 rfl rfl rfl rfl rfl ?_
                refine zr_iload_n 66 rfl rfl rfl ?_
                refine zr_iald 67 rfl rfl rfl (nI_clamp (by omega)) (vp_in_nI (by omega) (by omega)) ?_
                refine zr_goto 72 rfl (by decide) ?_
                refine zr_iret rfl rfl ?_
                refine ⟨?_, rfl⟩
                have e : ztakenF K hp sl (nI i) a = nI si := by
                  unfold ztakenF
                  rw [if_neg (fun q => q ⟨c4z, hc⟩), nI_clamp (by omega), a1]
                  exact if_pos ((zas10 a5).mp (by rw [← a4]; exact c58z))
                rw [e, a6]
          · exact absurd (by rw [ek]; decide) c36z
      · replace c24z := zb_0.mp c24z
        rw [zr1013] at c24z
        refine zr_iconst 28 (x := (-1)) rfl rfl (by decide) ?_
        refine zr_iret rfl rfl ?_
        refine ⟨?_, rfl⟩
        rw [show ztakenF K hp sl (nI i) a = _ from if_pos (fun q => q.2.elim c24z c13z)]
