set_option maxRecDepth 20000 in
set_option maxHeartbeats 1000000 in
theorem c_Mact {S : Nat × (Nat → Int32)} {d n : Nat} {ξ : Nat → Nat → Int32} {ρ : zRho} {K : zCs} (h : zMR ξ 0 K) (hK : zOK K) {hp : Nat → Int32} {sl : zSl} (hL : zML ξ hp sl) (x act v : Int32) : Zc S (d + 9) jX6_act [.ref 42, .int x, .int act, .int v] (zWof n ξ ρ) (fun r w => ∃ ξ2, w = zWof n ξ2 ρ ∧ r = some (.int (zactF K hp (ξ 67) x act v).1) ∧ ξ2 42 45 = nI (zactF K hp (ξ 67) x act v).2.1 ∧ ξ2 67 = (zactF K hp (ξ 67) x act v).2.2.1 ∧ (∀ b, b ≠ 42 → b ≠ 67 → ξ2 b = ξ b) ∧ ∀ k, k ≠ 41 → k ≠ 42 → k ≠ 43 → k ≠ 45 → k ≠ 46 → ξ2 42 k = ξ 42 k) := by
  have hd3 := hK.d3
  have hm6 := hK.m6
  have ht60 := hK.t60
  refine Zc_in (q := (6, 0, 1, 3, 6, 0, 0, zk_X6_act)) rfl (Nat.le_of_ble_eq_true rfl) (L := [_, _, _, _, _, _]) rfl ?_
  refine zr_aload_n 1 rfl rfl rfl trivial ?_
  refine zr_iconst 2 (x := 0) rfl rfl (by decide) ?_
  refine zr_putf 5 rfl rfl rfl rfl (Nat.le_of_ble_eq_true rfl) rfl trivial (fun h => by cases h) (zW_set (k := 45) rfl) ?_
  refine zr_iload_n 6 rfl rfl rfl ?_
  refine zr_calls 9 (As := [_]) (u2 := (0, 0)) rfl rfl rfl rfl rfl rfl rfl (Nat.le_of_ble_eq_true rfl) (Nat.le_of_ble_eq_true rfl) (Nat.le_of_ble_eq_true rfl) (c_MisShelf _) rfl (fun v2 w2 h6z => ?_)
  obtain ⟨rfl, rfl⟩ := h6z
  refine zr_if_eq 20 12 rfl rfl (by decide) (fun c9z => ?_) (fun c9z => ?_)
  · replace c9z := zb_0.mp c9z
    refine zr_iconst 21 (x := (-1)) rfl rfl (by decide) ?_
    refine zr_istore 23 (L2 := [_, _, _, _, _, _]) rfl rfl (Nat.le_of_ble_eq_true rfl) (by first | exact trivial | exact rfl) rfl ?_
    refine zr_iload_n 24 rfl rfl rfl ?_
    refine zr_iconst 25 (x := 0) rfl rfl (by decide) ?_
    refine zr_iconst 26 (x := 3) rfl rfl (by decide) ?_
    refine zr_calls 29 (As := [_, _, _]) (u2 := (0, 0)) rfl rfl rfl rfl rfl rfl rfl (Nat.le_of_ble_eq_true rfl) (Nat.le_of_ble_eq_true rfl) (Nat.le_of_ble_eq_true rfl) (c_Min _ _ _) rfl (fun v2 w2 h26z => ?_)
    obtain ⟨rfl, rfl⟩ := h26z
    refine zr_if_eq 42 32 rfl rfl (by decide) (fun c29z => ?_) (fun c29z => ?_)
    · replace c29z := zb_0.mp c29z
      refine zr_iconst 43 (x := 0) rfl rfl (by decide) ?_
      refine zr_iret rfl rfl ?_
      refine ⟨_, rfl, ?_⟩
      rw [show zactF K hp (ξ 67) x act v = (0, (0, ξ 67, 0)) by
        unfold zactF
        exact if_pos (fun z => c9z z.1)]
      exact ⟨rfl, zu_same _ _ _ _, zun (by decide), fun b b1 _ => zun b1, fun k _ _ _ k4 _ => zu_ne (Or.inr k4)⟩
    · replace c29z := zb_n0.mp c29z
      refine zr_iload 34 rfl rfl rfl ?_
      refine zr_iconst 35 (x := 0) rfl rfl (by decide) ?_
      refine zr_iconst 36 (x := 5) rfl rfl (by decide) ?_
      refine zr_calls 39 (As := [_, _, _]) (u2 := (0, 0)) rfl rfl rfl rfl rfl rfl rfl (Nat.le_of_ble_eq_true rfl) (Nat.le_of_ble_eq_true rfl) (Nat.le_of_ble_eq_true rfl) (c_Min _ _ _) rfl (fun v2 w2 h36z => ?_)
      obtain ⟨rfl, rfl⟩ := h36z
      refine zr_if_ne 44 42 rfl rfl (by decide) (fun c39z => ?_) (fun c39z => ?_)
      · replace c39z := zb_n0.mp c39z
        exact absurd c39z.1 (by decide)
      · replace c39z := zb_0.mp c39z
        refine zr_iconst 43 (x := 0) rfl rfl (by decide) ?_
        refine zr_iret rfl rfl ?_
        refine ⟨_, rfl, ?_⟩
        rw [show zactF K hp (ξ 67) x act v = (0, (0, ξ 67, 0)) by
          unfold zactF
          exact if_pos (fun z => c9z z.1)]
        exact ⟨rfl, zu_same _ _ _ _, zun (by decide), fun b b1 _ => zun b1, fun k _ _ _ k4 _ => zu_ne (Or.inr k4)⟩
  · replace c9z := zb_n0.mp c9z
    obtain ⟨i, hi, rfl⟩ := zperI (m := 4) (M := 4) rfl (by decide) c9z
    have hL0 : zML (zu ξ 42 45 0) hp sl := hL
    have h0 : zMR (zu ξ 42 45 0) 0 K := h.u42 hm6 45 0 (by decide)
    rcases hL i hi with ⟨a1, a2, a3⟩ | ⟨a1, a2, a3, a4⟩ | ⟨so, si, a1, a2, a3, a4, a5, a6⟩
    · have ep : zpon K hp i = -1 := by
        unfold zpon
        rw [if_neg (fun q => absurd q.1 (by rw [a2]; decide))]
      have ek : zkon K hp sl i = -1 := by
        unfold zkon
        rw [a1]
        exact if_pos ep
      refine zr_aload_n 13 rfl rfl rfl trivial ?_
      refine zr_iload_n 14 rfl rfl rfl ?_
      refine zr_callv 17 (As := [_]) (u2 := (0, 0)) rfl rfl rfl rfl rfl rfl rfl (Nat.le_of_ble_eq_true rfl) (Nat.le_of_ble_eq_true rfl) (Nat.le_of_ble_eq_true rfl) rfl (c_MkindOn h0 hK hL0 hi) rfl (fun v2 w2 h14z => ?_)
      obtain ⟨rfl, rfl⟩ := h14z
      rw [ek]
      refine zr_goto 21 rfl (by decide) ?_
      refine zr_istore 23 (L2 := [_, _, _, _, _, _]) rfl rfl (Nat.le_of_ble_eq_true rfl) (by first | exact trivial | exact rfl) rfl ?_
      refine zr_iload_n 24 rfl rfl rfl ?_
      refine zr_iconst 25 (x := 0) rfl rfl (by decide) ?_
      refine zr_iconst 26 (x := 3) rfl rfl (by decide) ?_
      refine zr_calls 29 (As := [_, _, _]) (u2 := (0, 0)) rfl rfl rfl rfl rfl rfl rfl (Nat.le_of_ble_eq_true rfl) (Nat.le_of_ble_eq_true rfl) (Nat.le_of_ble_eq_true rfl) (c_Min _ _ _) rfl (fun v2 w2 h26z => ?_)
      obtain ⟨rfl, rfl⟩ := h26z
      refine zr_if_eq 42 32 rfl rfl (by decide) (fun c29z => ?_) (fun c29z => ?_)
      · replace c29z := zb_0.mp c29z
        refine zr_iconst 43 (x := 0) rfl rfl (by decide) ?_
        refine zr_iret rfl rfl ?_
        refine ⟨_, rfl, ?_⟩
        rw [show zactF K hp (ξ 67) (nI i) act v = (0, (0, ξ 67, 0)) by
          unfold zactF
          by_cases q : (0 ≤ nI i ∧ nI i < 4) ∧ 0 ≤ act ∧ act ≤ 3
          · rw [if_neg (fun z => z q), nI_clamp (by omega), if_pos ep]
          · rw [if_pos q]]
        exact ⟨rfl, zu_same _ _ _ _, zun (by decide), fun b b1 _ => zun b1, fun k _ _ _ k4 _ => zu_ne (Or.inr k4)⟩
      · replace c29z := zb_n0.mp c29z
        refine zr_iload 34 rfl rfl rfl ?_
        refine zr_iconst 35 (x := 0) rfl rfl (by decide) ?_
        refine zr_iconst 36 (x := 5) rfl rfl (by decide) ?_
        refine zr_calls 39 (As := [_, _, _]) (u2 := (0, 0)) rfl rfl rfl rfl rfl rfl rfl (Nat.le_of_ble_eq_true rfl) (Nat.le_of_ble_eq_true rfl) (Nat.le_of_ble_eq_true rfl) (c_Min _ _ _) rfl (fun v2 w2 h36z => ?_)
        obtain ⟨rfl, rfl⟩ := h36z
        refine zr_if_ne 44 42 rfl rfl (by decide) (fun c39z => ?_) (fun c39z => ?_)
        · replace c39z := zb_n0.mp c39z
          exact absurd c39z.1 (by decide)
        · replace c39z := zb_0.mp c39z
          refine zr_iconst 43 (x := 0) rfl rfl (by decide) ?_
          refine zr_iret rfl rfl ?_
          refine ⟨_, rfl, ?_⟩
          rw [show zactF K hp (ξ 67) (nI i) act v = (0, (0, ξ 67, 0)) by
            unfold zactF
            by_cases q : (0 ≤ nI i ∧ nI i < 4) ∧ 0 ≤ act ∧ act ≤ 3
            · rw [if_neg (fun z => z q), nI_clamp (by omega), if_pos ep]
            · rw [if_pos q]]
          exact ⟨rfl, zu_same _ _ _ _, zun (by decide), fun b b1 _ => zun b1, fun k _ _ _ k4 _ => zu_ne (Or.inr k4)⟩
    · by_cases hp2 : 0 ≤ hp i ∧ hp i < nI K.M
      · obtain ⟨q, hq, eq⟩ := zperI rfl (by omega) hp2
        have ep : zpon K hp i = nI q := by
          unfold zpon
          rw [if_pos hp2, eq]
        have hk5 := (hK.hp q hq).h0
        obtain ⟨kd, ekd⟩ : ∃ kd, K.p q 0 = kd := ⟨_, rfl⟩
        rw [ekd] at hk5
        have a5 : ξ 65 i = nI q := a4.trans eq
        have ek : zkon K hp sl i = kd := by
          unfold zkon
          rw [a1]
          show (if zpon K hp i = -1 then -1 else K.p (zpon K hp i).toNatClampNeg 0) = _
          rw [ep, if_neg (zne1 (nI_pos (by omega))), nI_clamp (by omega), ekd]
        have mt : zMT (zu (zu (zu (zu (zu ξ 42 45 0) 42 41 kd) 42 42 (ξ 65 i)) 42 43 (K.p q 1)) 42 46 0) kd (K.p q 1) (ξ 65 i) (0, ξ 67, 0) := by
          refine ⟨?_, ?_, zu_same _ _ _ _, ?_, ?_, ?_, Nat.zero_le _⟩
          · rw [zu_ne (Or.inr (by decide)), zu_ne (Or.inr (by decide)), zu_ne (Or.inr (by decide)), zu_ne (Or.inr (by decide)), zu_same]
            rfl
          · rw [zun (by decide), zun (by decide), zun (by decide), zun (by decide), zun (by decide)]
          · rw [zu_ne (Or.inr (by decide)), zu_ne (Or.inr (by decide)), zu_ne (Or.inr (by decide)), zu_same]
          · rw [zu_ne (Or.inr (by decide)), zu_same]
          · rw [zu_ne (Or.inr (by decide)), zu_ne (Or.inr (by decide)), zu_same]
        have fr0 : (∀ b, b ≠ 42 → (zu (zu (zu (zu (zu ξ 42 45 0) 42 41 kd) 42 42 (ξ 65 i)) 42 43 (K.p q 1)) 42 46 0) b = ξ b) ∧ ∀ j, j ≠ 41 → j ≠ 42 → j ≠ 43 → j ≠ 45 → j ≠ 46 → (zu (zu (zu (zu (zu ξ 42 45 0) 42 41 kd) 42 42 (ξ 65 i)) 42 43 (K.p q 1)) 42 46 0) 42 j = ξ 42 j := ⟨fun b hb => by rw [zun hb, zun hb, zun hb, zun hb, zun hb], fun j j1 j2 j3 j4 j5 => by rw [zu_ne (Or.inr j5), zu_ne (Or.inr j3), zu_ne (Or.inr j2), zu_ne (Or.inr j1), zu_ne (Or.inr j4)]⟩
        refine zr_aload_n 13 rfl rfl rfl trivial ?_
        refine zr_iload_n 14 rfl rfl rfl ?_
        refine zr_callv 17 (As := [_]) (u2 := (0, 0)) rfl rfl rfl rfl rfl rfl rfl (Nat.le_of_ble_eq_true rfl) (Nat.le_of_ble_eq_true rfl) (Nat.le_of_ble_eq_true rfl) rfl (c_MkindOn h0 hK hL0 hi) rfl (fun v2 w2 h14z => ?_)
        obtain ⟨rfl, rfl⟩ := h14z
        rw [ek]
        refine zr_goto 21 rfl (by decide) ?_
        refine zr_istore 23 (L2 := [_, _, _, _, _, _]) rfl rfl (Nat.le_of_ble_eq_true rfl) (by first | exact trivial | exact rfl) rfl ?_
        refine zr_iload_n 24 rfl rfl rfl ?_
        refine zr_iconst 25 (x := 0) rfl rfl (by decide) ?_
        refine zr_iconst 26 (x := 3) rfl rfl (by decide) ?_
        refine zr_calls 29 (As := [_, _, _]) (u2 := (0, 0)) rfl rfl rfl rfl rfl rfl rfl (Nat.le_of_ble_eq_true rfl) (Nat.le_of_ble_eq_true rfl) (Nat.le_of_ble_eq_true rfl) (c_Min _ _ _) rfl (fun v2 w2 h26z => ?_)
        obtain ⟨rfl, rfl⟩ := h26z
        refine zr_if_eq 42 32 rfl rfl (by decide) (fun c29z => ?_) (fun c29z => ?_)
        · replace c29z := zb_0.mp c29z
          refine zr_iconst 43 (x := 0) rfl rfl (by decide) ?_
          refine zr_iret rfl rfl ?_
          refine ⟨_, rfl, ?_⟩
          rw [show zactF K hp (ξ 67) (nI i) act v = (0, (0, ξ 67, 0)) by
            unfold zactF
            exact if_pos (fun z => c29z z.2)]
          exact ⟨rfl, zu_same _ _ _ _, zun (by decide), fun b b1 _ => zun b1, fun k _ _ _ k4 _ => zu_ne (Or.inr k4)⟩
        · replace c29z := zb_n0.mp c29z
          refine zr_iload 34 rfl rfl rfl ?_
          refine zr_iconst 35 (x := 0) rfl rfl (by decide) ?_
          refine zr_iconst 36 (x := 5) rfl rfl (by decide) ?_
          refine zr_calls 39 (As := [_, _, _]) (u2 := (0, 0)) rfl rfl rfl rfl rfl rfl rfl (Nat.le_of_ble_eq_true rfl) (Nat.le_of_ble_eq_true rfl) (Nat.le_of_ble_eq_true rfl) (c_Min _ _ _) rfl (fun v2 w2 h36z => ?_)
          obtain ⟨rfl, rfl⟩ := h36z
          refine zr_if_ne 44 42 rfl rfl (by decide) (fun c39z => ?_) (fun c39z => ?_)
          · replace c39z := zb_n0.mp c39z
            refine zr_aload_n 45 rfl rfl rfl trivial ?_
            refine zr_iload 47 rfl rfl rfl ?_
            refine zr_putf 50 rfl rfl rfl rfl (Nat.le_of_ble_eq_true rfl) rfl trivial (fun h => by cases h) (zW_set (k := 41) rfl) ?_
            refine zr_aload_n 51 rfl rfl rfl trivial ?_
            refine zr_aload_n 52 rfl rfl rfl trivial ?_
            refine zr_getf 55 rfl rfl rfl rfl rfl ?_
            refine zr_iload_n 56 rfl rfl rfl ?_
            refine zr_iald 57 rfl rfl rfl (nI_clamp (by omega)) (vp_in_nI (by omega) (by omega)) ?_
            rw [show zu (zu ξ 42 45 0) 42 41 kd 65 i = ξ 65 i from rfl]
            refine zr_putf 60 rfl rfl rfl rfl (Nat.le_of_ble_eq_true rfl) rfl trivial (fun h => by cases h) (zW_set (k := 42) rfl) ?_
            refine zr_aload_n 61 rfl rfl rfl trivial ?_
            refine zr_aload_n 62 rfl rfl rfl trivial ?_
            refine zr_getf 65 rfl rfl rfl rfl rfl ?_
            refine zr_aload_n 66 rfl rfl rfl trivial ?_
            refine zr_getf 69 rfl rfl rfl rfl rfl ?_
            rw [show zu (zu (zu ξ 42 45 0) 42 41 kd) 42 42 (ξ 65 i) 42 42 = nI q from (zu_same _ _ _ _).trans a5]
            refine zr_iald 70 rfl rfl rfl (nI_clamp (by omega)) (vp_in_nI (by omega) (by omega)) ?_
            rw [show zu (zu (zu ξ 42 45 0) 42 41 kd) 42 42 (ξ 65 i) 47 q = K.p q 1 from h.k1 hq]
            refine zr_putf 73 rfl rfl rfl rfl (Nat.le_of_ble_eq_true rfl) rfl trivial (fun h => by cases h) (zW_set (k := 43) rfl) ?_
            refine zr_aload_n 74 rfl rfl rfl trivial ?_
            refine zr_iconst 75 (x := 0) rfl rfl (by decide) ?_
            refine zr_putf 78 rfl rfl rfl rfl (Nat.le_of_ble_eq_true rfl) rfl (by first | exact Or.inl rfl | exact Or.inr rfl | assumption) (fun h => by cases h) (zW_set (k := 46) rfl) ?_
            refine zr_iload_n 79 rfl rfl rfl ?_
            refine zr_if_ne 90 82 rfl rfl (by decide) (fun c79z => ?_) (fun c79z => ?_)
            · refine zr_iload_n 91 rfl rfl rfl ?_
              refine zr_iconst 92 (x := 1) rfl rfl (by decide) ?_
              refine zr_icmp_ne 103 95 rfl rfl (by decide) (fun c92z => ?_) (fun c92z => ?_)
              · refine zr_iload_n 104 rfl rfl rfl ?_
                refine zr_iconst 105 (x := 2) rfl rfl (by decide) ?_
                refine zr_icmp_ne 116 108 rfl rfl (by decide) (fun c105z => ?_) (fun c105z => ?_)
                · refine zr_aload_n 117 rfl rfl rfl trivial ?_
                  refine zr_iload_n 118 rfl rfl rfl ?_
                  refine zr_callv 121 (As := [_]) (u2 := (0, 0)) rfl rfl rfl rfl rfl rfl rfl (Nat.le_of_ble_eq_true rfl) (Nat.le_of_ble_eq_true rfl) (Nat.le_of_ble_eq_true rfl) rfl (c_MtellsIt mt rfl _) rfl (fun v2 w2 h118z => ?_)
                  obtain ⟨v118z, rfl, g118z, ξ118z, rfl, x118z, f118z⟩ := h118z
                  refine zr_istore 123 (L2 := [_, _, _, _, _, _]) rfl rfl (Nat.le_of_ble_eq_true rfl) (by first | exact trivial | exact rfl) rfl ?_
                  refine zr_aload_n 124 rfl rfl rfl trivial ?_
                  refine zr_getf 127 rfl rfl rfl rfl rfl ?_
                  refine zr_if_eq 135 130 rfl rfl (by decide) (fun c127z => ?_) (fun c127z => ?_)
                  · rw [x118z.2.2.1] at c127z
                    refine zr_iload 137 rfl rfl rfl ?_
                    refine zr_iret rfl rfl ?_
                    have ea : zans kd (K.p q 1) (ξ 65 i) act v (0, ξ 67, 0) = _ := (if_neg c79z).trans ((if_neg c92z).trans (if_neg c105z))
                    have e : zactF K hp (ξ 67) (nI i) act v = (if (zans kd (K.p q 1) (ξ 65 i) act v (0, ξ 67, 0)).2.2.2 = 0 then (zans kd (K.p q 1) (ξ 65 i) act v (0, ξ 67, 0)).1 else -15, (zans kd (K.p q 1) (ξ 65 i) act v (0, ξ 67, 0)).2) := by
                      unfold zactF
                      rw [if_neg (fun z => z ⟨c9z, c29z⟩), nI_clamp (by omega), ep, if_neg (zne1 (nI_pos (by omega))), nI_clamp (by omega), ekd, ← a5]
                    rw [e, ea]
                    refine ⟨ξ118z, rfl, ?_, x118z.1, x118z.2.1, fun b b1 b2 => by rw [f118z.1 b b1 b2]; exact fr0.1 b b1, fun j j1 j2 j3 j4 j5 => by rw [f118z.2 j j4 j5]; exact fr0.2 j j1 j2 j3 j4 j5⟩
                    rw [if_pos c127z, g118z c127z]
                  · rw [x118z.2.2.1] at c127z
                    refine zr_bipush 132 (x := (-15)) rfl rfl (by decide) ?_
                    refine zr_goto 137 rfl (by decide) ?_
                    refine zr_iret rfl rfl ?_
                    have ea : zans kd (K.p q 1) (ξ 65 i) act v (0, ξ 67, 0) = _ := (if_neg c79z).trans ((if_neg c92z).trans (if_neg c105z))
                    have e : zactF K hp (ξ 67) (nI i) act v = (if (zans kd (K.p q 1) (ξ 65 i) act v (0, ξ 67, 0)).2.2.2 = 0 then (zans kd (K.p q 1) (ξ 65 i) act v (0, ξ 67, 0)).1 else -15, (zans kd (K.p q 1) (ξ 65 i) act v (0, ξ 67, 0)).2) := by
                      unfold zactF
                      rw [if_neg (fun z => z ⟨c9z, c29z⟩), nI_clamp (by omega), ep, if_neg (zne1 (nI_pos (by omega))), nI_clamp (by omega), ekd, ← a5]
                    rw [e, ea]
                    refine ⟨ξ118z, rfl, ?_, x118z.1, x118z.2.1, fun b b1 b2 => by rw [f118z.1 b b1 b2]; exact fr0.1 b b1, fun j j1 j2 j3 j4 j5 => by rw [f118z.2 j j4 j5]; exact fr0.2 j j1 j2 j3 j4 j5⟩
                    rw [if_neg c127z]
                · refine zr_aload_n 109 rfl rfl rfl trivial ?_
                  refine zr_iload_n 110 rfl rfl rfl ?_
                  refine zr_callv 113 (As := [_]) (u2 := (0, 0)) rfl rfl rfl rfl rfl rfl rfl (Nat.le_of_ble_eq_true rfl) (Nat.le_of_ble_eq_true rfl) (Nat.le_of_ble_eq_true rfl) rfl (c_MsharesIt mt rfl _) rfl (fun v2 w2 h110z => ?_)
                  obtain ⟨v110z, rfl, g110z, ξ110z, rfl, x110z, f110z⟩ := h110z
                  refine zr_goto 121 rfl (by decide) ?_
                  refine zr_istore 123 (L2 := [_, _, _, _, _, _]) rfl rfl (Nat.le_of_ble_eq_true rfl) (by first | exact trivial | exact rfl) rfl ?_
                  refine zr_aload_n 124 rfl rfl rfl trivial ?_
                  refine zr_getf 127 rfl rfl rfl rfl rfl ?_
                  refine zr_if_eq 135 130 rfl rfl (by decide) (fun c127z => ?_) (fun c127z => ?_)
                  · rw [x110z.2.2.1] at c127z
                    refine zr_iload 137 rfl rfl rfl ?_
                    refine zr_iret rfl rfl ?_
                    have ea : zans kd (K.p q 1) (ξ 65 i) act v (0, ξ 67, 0) = _ := (if_neg c79z).trans ((if_neg c92z).trans (if_pos c105z))
                    have e : zactF K hp (ξ 67) (nI i) act v = (if (zans kd (K.p q 1) (ξ 65 i) act v (0, ξ 67, 0)).2.2.2 = 0 then (zans kd (K.p q 1) (ξ 65 i) act v (0, ξ 67, 0)).1 else -15, (zans kd (K.p q 1) (ξ 65 i) act v (0, ξ 67, 0)).2) := by
                      unfold zactF
                      rw [if_neg (fun z => z ⟨c9z, c29z⟩), nI_clamp (by omega), ep, if_neg (zne1 (nI_pos (by omega))), nI_clamp (by omega), ekd, ← a5]
                    rw [e, ea]
                    refine ⟨ξ110z, rfl, ?_, x110z.1, x110z.2.1, fun b b1 b2 => by rw [f110z.1 b b1 b2]; exact fr0.1 b b1, fun j j1 j2 j3 j4 j5 => by rw [f110z.2 j j4 j5]; exact fr0.2 j j1 j2 j3 j4 j5⟩
                    rw [if_pos c127z, g110z c127z]
                  · rw [x110z.2.2.1] at c127z
                    refine zr_bipush 132 (x := (-15)) rfl rfl (by decide) ?_
                    refine zr_goto 137 rfl (by decide) ?_
                    refine zr_iret rfl rfl ?_
                    have ea : zans kd (K.p q 1) (ξ 65 i) act v (0, ξ 67, 0) = _ := (if_neg c79z).trans ((if_neg c92z).trans (if_pos c105z))
                    have e : zactF K hp (ξ 67) (nI i) act v = (if (zans kd (K.p q 1) (ξ 65 i) act v (0, ξ 67, 0)).2.2.2 = 0 then (zans kd (K.p q 1) (ξ 65 i) act v (0, ξ 67, 0)).1 else -15, (zans kd (K.p q 1) (ξ 65 i) act v (0, ξ 67, 0)).2) := by
                      unfold zactF
                      rw [if_neg (fun z => z ⟨c9z, c29z⟩), nI_clamp (by omega), ep, if_neg (zne1 (nI_pos (by omega))), nI_clamp (by omega), ekd, ← a5]
                    rw [e, ea]
                    refine ⟨ξ110z, rfl, ?_, x110z.1, x110z.2.1, fun b b1 b2 => by rw [f110z.1 b b1 b2]; exact fr0.1 b b1, fun j j1 j2 j3 j4 j5 => by rw [f110z.2 j j4 j5]; exact fr0.2 j j1 j2 j3 j4 j5⟩
                    rw [if_neg c127z]
              · refine zr_aload_n 96 rfl rfl rfl trivial ?_
                refine zr_iload_n 97 rfl rfl rfl ?_
                refine zr_callv 100 (As := [_]) (u2 := (0, 0)) rfl rfl rfl rfl rfl rfl rfl (Nat.le_of_ble_eq_true rfl) (Nat.le_of_ble_eq_true rfl) (Nat.le_of_ble_eq_true rfl) rfl (c_MwaitsIt mt rfl _) rfl (fun v2 w2 h97z => ?_)
                obtain ⟨rfl, ξ97z, rfl, x97z, f97z⟩ := h97z
                refine zr_goto 121 rfl (by decide) ?_
                refine zr_istore 123 (L2 := [_, _, _, _, _, _]) rfl rfl (Nat.le_of_ble_eq_true rfl) (by first | exact trivial | exact rfl) rfl ?_
                refine zr_aload_n 124 rfl rfl rfl trivial ?_
                refine zr_getf 127 rfl rfl rfl rfl rfl ?_
                refine zr_if_eq 135 130 rfl rfl (by decide) (fun c127z => ?_) (fun c127z => ?_)
                · rw [x97z.2.2.1] at c127z
                  refine zr_iload 137 rfl rfl rfl ?_
                  refine zr_iret rfl rfl ?_
                  have ea : zans kd (K.p q 1) (ξ 65 i) act v (0, ξ 67, 0) = _ := (if_neg c79z).trans (if_pos c92z)
                  have e : zactF K hp (ξ 67) (nI i) act v = (if (zans kd (K.p q 1) (ξ 65 i) act v (0, ξ 67, 0)).2.2.2 = 0 then (zans kd (K.p q 1) (ξ 65 i) act v (0, ξ 67, 0)).1 else -15, (zans kd (K.p q 1) (ξ 65 i) act v (0, ξ 67, 0)).2) := by
                    unfold zactF
                    rw [if_neg (fun z => z ⟨c9z, c29z⟩), nI_clamp (by omega), ep, if_neg (zne1 (nI_pos (by omega))), nI_clamp (by omega), ekd, ← a5]
                  rw [e, ea]
                  refine ⟨ξ97z, rfl, ?_, x97z.1, x97z.2.1, fun b b1 b2 => by rw [f97z.1 b b1 b2]; exact fr0.1 b b1, fun j j1 j2 j3 j4 j5 => by rw [f97z.2 j j4 j5]; exact fr0.2 j j1 j2 j3 j4 j5⟩
                  rw [if_pos c127z]
                · rw [x97z.2.2.1] at c127z
                  refine zr_bipush 132 (x := (-15)) rfl rfl (by decide) ?_
                  refine zr_goto 137 rfl (by decide) ?_
                  refine zr_iret rfl rfl ?_
                  have ea : zans kd (K.p q 1) (ξ 65 i) act v (0, ξ 67, 0) = _ := (if_neg c79z).trans (if_pos c92z)
                  have e : zactF K hp (ξ 67) (nI i) act v = (if (zans kd (K.p q 1) (ξ 65 i) act v (0, ξ 67, 0)).2.2.2 = 0 then (zans kd (K.p q 1) (ξ 65 i) act v (0, ξ 67, 0)).1 else -15, (zans kd (K.p q 1) (ξ 65 i) act v (0, ξ 67, 0)).2) := by
                    unfold zactF
                    rw [if_neg (fun z => z ⟨c9z, c29z⟩), nI_clamp (by omega), ep, if_neg (zne1 (nI_pos (by omega))), nI_clamp (by omega), ekd, ← a5]
                  rw [e, ea]
                  refine ⟨ξ97z, rfl, ?_, x97z.1, x97z.2.1, fun b b1 b2 => by rw [f97z.1 b b1 b2]; exact fr0.1 b b1, fun j j1 j2 j3 j4 j5 => by rw [f97z.2 j j4 j5]; exact fr0.2 j j1 j2 j3 j4 j5⟩
                  rw [if_neg c127z]
            · refine zr_aload_n 83 rfl rfl rfl trivial ?_
              refine zr_iload_n 84 rfl rfl rfl ?_
              refine zr_callv 87 (As := [_]) (u2 := (0, 0)) rfl rfl rfl rfl rfl rfl rfl (Nat.le_of_ble_eq_true rfl) (Nat.le_of_ble_eq_true rfl) (Nat.le_of_ble_eq_true rfl) rfl (c_MworksIt mt rfl _) rfl (fun v2 w2 h84z => ?_)
              obtain ⟨rfl, ξ84z, rfl, x84z, f84z⟩ := h84z
              refine zr_goto 121 rfl (by decide) ?_
              refine zr_istore 123 (L2 := [_, _, _, _, _, _]) rfl rfl (Nat.le_of_ble_eq_true rfl) (by first | exact trivial | exact rfl) rfl ?_
              refine zr_aload_n 124 rfl rfl rfl trivial ?_
              refine zr_getf 127 rfl rfl rfl rfl rfl ?_
              refine zr_if_eq 135 130 rfl rfl (by decide) (fun c127z => ?_) (fun c127z => ?_)
              · rw [x84z.2.2.1] at c127z
                refine zr_iload 137 rfl rfl rfl ?_
                refine zr_iret rfl rfl ?_
                have ea : zans kd (K.p q 1) (ξ 65 i) act v (0, ξ 67, 0) = _ := if_pos c79z
                have e : zactF K hp (ξ 67) (nI i) act v = (if (zans kd (K.p q 1) (ξ 65 i) act v (0, ξ 67, 0)).2.2.2 = 0 then (zans kd (K.p q 1) (ξ 65 i) act v (0, ξ 67, 0)).1 else -15, (zans kd (K.p q 1) (ξ 65 i) act v (0, ξ 67, 0)).2) := by
                  unfold zactF
                  rw [if_neg (fun z => z ⟨c9z, c29z⟩), nI_clamp (by omega), ep, if_neg (zne1 (nI_pos (by omega))), nI_clamp (by omega), ekd, ← a5]
                rw [e, ea]
                refine ⟨ξ84z, rfl, ?_, x84z.1, x84z.2.1, fun b b1 b2 => by rw [f84z.1 b b1 b2]; exact fr0.1 b b1, fun j j1 j2 j3 j4 j5 => by rw [f84z.2 j j4 j5]; exact fr0.2 j j1 j2 j3 j4 j5⟩
                rw [if_pos c127z]
              · rw [x84z.2.2.1] at c127z
                refine zr_bipush 132 (x := (-15)) rfl rfl (by decide) ?_
                refine zr_goto 137 rfl (by decide) ?_
                refine zr_iret rfl rfl ?_
                have ea : zans kd (K.p q 1) (ξ 65 i) act v (0, ξ 67, 0) = _ := if_pos c79z
                have e : zactF K hp (ξ 67) (nI i) act v = (if (zans kd (K.p q 1) (ξ 65 i) act v (0, ξ 67, 0)).2.2.2 = 0 then (zans kd (K.p q 1) (ξ 65 i) act v (0, ξ 67, 0)).1 else -15, (zans kd (K.p q 1) (ξ 65 i) act v (0, ξ 67, 0)).2) := by
                  unfold zactF
                  rw [if_neg (fun z => z ⟨c9z, c29z⟩), nI_clamp (by omega), ep, if_neg (zne1 (nI_pos (by omega))), nI_clamp (by omega), ekd, ← a5]
                rw [e, ea]
                refine ⟨ξ84z, rfl, ?_, x84z.1, x84z.2.1, fun b b1 b2 => by rw [f84z.1 b b1 b2]; exact fr0.1 b b1, fun j j1 j2 j3 j4 j5 => by rw [f84z.2 j j4 j5]; exact fr0.2 j j1 j2 j3 j4 j5⟩
                rw [if_neg c127z]
          · replace c39z := zb_0.mp c39z
            exact absurd ⟨Int32.le_iff_toInt_le.mpr (by rw [zI0]; exact hk5.1), Int32.le_iff_toInt_le.mpr (by rw [show (5 : Int32).toInt = 5 by decide]; exact hk5.2)⟩ c39z
      · have ep : zpon K hp i = -1 := by
          unfold zpon
          rw [if_neg hp2]
        have ek : zkon K hp sl i = -1 := by
          unfold zkon
          rw [a1]
          exact if_pos ep
        refine zr_aload_n 13 rfl rfl rfl trivial ?_
        refine zr_iload_n 14 rfl rfl rfl ?_
        refine zr_callv 17 (As := [_]) (u2 := (0, 0)) rfl rfl rfl rfl rfl rfl rfl (Nat.le_of_ble_eq_true rfl) (Nat.le_of_ble_eq_true rfl) (Nat.le_of_ble_eq_true rfl) rfl (c_MkindOn h0 hK hL0 hi) rfl (fun v2 w2 h14z => ?_)
        obtain ⟨rfl, rfl⟩ := h14z
        rw [ek]
        refine zr_goto 21 rfl (by decide) ?_
        refine zr_istore 23 (L2 := [_, _, _, _, _, _]) rfl rfl (Nat.le_of_ble_eq_true rfl) (by first | exact trivial | exact rfl) rfl ?_
        refine zr_iload_n 24 rfl rfl rfl ?_
        refine zr_iconst 25 (x := 0) rfl rfl (by decide) ?_
        refine zr_iconst 26 (x := 3) rfl rfl (by decide) ?_
        refine zr_calls 29 (As := [_, _, _]) (u2 := (0, 0)) rfl rfl rfl rfl rfl rfl rfl (Nat.le_of_ble_eq_true rfl) (Nat.le_of_ble_eq_true rfl) (Nat.le_of_ble_eq_true rfl) (c_Min _ _ _) rfl (fun v2 w2 h26z => ?_)
        obtain ⟨rfl, rfl⟩ := h26z
        refine zr_if_eq 42 32 rfl rfl (by decide) (fun c29z => ?_) (fun c29z => ?_)
        · replace c29z := zb_0.mp c29z
          refine zr_iconst 43 (x := 0) rfl rfl (by decide) ?_
          refine zr_iret rfl rfl ?_
          refine ⟨_, rfl, ?_⟩
          rw [show zactF K hp (ξ 67) (nI i) act v = (0, (0, ξ 67, 0)) by
            unfold zactF
            by_cases q : (0 ≤ nI i ∧ nI i < 4) ∧ 0 ≤ act ∧ act ≤ 3
            · rw [if_neg (fun z => z q), nI_clamp (by omega), if_pos ep]
            · rw [if_pos q]]
          exact ⟨rfl, zu_same _ _ _ _, zun (by decide), fun b b1 _ => zun b1, fun k _ _ _ k4 _ => zu_ne (Or.inr k4)⟩
        · replace c29z := zb_n0.mp c29z
          refine zr_iload 34 rfl rfl rfl ?_
          refine zr_iconst 35 (x := 0) rfl rfl (by decide) ?_
          refine zr_iconst 36 (x := 5) rfl rfl (by decide) ?_
          refine zr_calls 39 (As := [_, _, _]) (u2 := (0, 0)) rfl rfl rfl rfl rfl rfl rfl (Nat.le_of_ble_eq_true rfl) (Nat.le_of_ble_eq_true rfl) (Nat.le_of_ble_eq_true rfl) (c_Min _ _ _) rfl (fun v2 w2 h36z => ?_)
          obtain ⟨rfl, rfl⟩ := h36z
          refine zr_if_ne 44 42 rfl rfl (by decide) (fun c39z => ?_) (fun c39z => ?_)
          · replace c39z := zb_n0.mp c39z
            exact absurd c39z.1 (by decide)
          · replace c39z := zb_0.mp c39z
            refine zr_iconst 43 (x := 0) rfl rfl (by decide) ?_
            refine zr_iret rfl rfl ?_
            refine ⟨_, rfl, ?_⟩
            rw [show zactF K hp (ξ 67) (nI i) act v = (0, (0, ξ 67, 0)) by
              unfold zactF
              by_cases q : (0 ≤ nI i ∧ nI i < 4) ∧ 0 ≤ act ∧ act ≤ 3
              · rw [if_neg (fun z => z q), nI_clamp (by omega), if_pos ep]
              · rw [if_pos q]]
            exact ⟨rfl, zu_same _ _ _ _, zun (by decide), fun b b1 _ => zun b1, fun k _ _ _ k4 _ => zu_ne (Or.inr k4)⟩
    · have ep : zpon K hp i = -1 := by
        unfold zpon
        rw [if_neg (fun q => absurd q.1 (by rw [a2]; decide))]
      have ek : zkon K hp sl i = 9 := by
        unfold zkon
        rw [a1]
      refine zr_aload_n 13 rfl rfl rfl trivial ?_
      refine zr_iload_n 14 rfl rfl rfl ?_
      refine zr_callv 17 (As := [_]) (u2 := (0, 0)) rfl rfl rfl rfl rfl rfl rfl (Nat.le_of_ble_eq_true rfl) (Nat.le_of_ble_eq_true rfl) (Nat.le_of_ble_eq_true rfl) rfl (c_MkindOn h0 hK hL0 hi) rfl (fun v2 w2 h14z => ?_)
      obtain ⟨rfl, rfl⟩ := h14z
      rw [ek]
      refine zr_goto 21 rfl (by decide) ?_
      refine zr_istore 23 (L2 := [_, _, _, _, _, _]) rfl rfl (Nat.le_of_ble_eq_true rfl) (by first | exact trivial | exact rfl) rfl ?_
      refine zr_iload_n 24 rfl rfl rfl ?_
      refine zr_iconst 25 (x := 0) rfl rfl (by decide) ?_
      refine zr_iconst 26 (x := 3) rfl rfl (by decide) ?_
      refine zr_calls 29 (As := [_, _, _]) (u2 := (0, 0)) rfl rfl rfl rfl rfl rfl rfl (Nat.le_of_ble_eq_true rfl) (Nat.le_of_ble_eq_true rfl) (Nat.le_of_ble_eq_true rfl) (c_Min _ _ _) rfl (fun v2 w2 h26z => ?_)
      obtain ⟨rfl, rfl⟩ := h26z
      refine zr_if_eq 42 32 rfl rfl (by decide) (fun c29z => ?_) (fun c29z => ?_)
      · replace c29z := zb_0.mp c29z
        refine zr_iconst 43 (x := 0) rfl rfl (by decide) ?_
        refine zr_iret rfl rfl ?_
        refine ⟨_, rfl, ?_⟩
        rw [show zactF K hp (ξ 67) (nI i) act v = (0, (0, ξ 67, 0)) by
          unfold zactF
          by_cases q : (0 ≤ nI i ∧ nI i < 4) ∧ 0 ≤ act ∧ act ≤ 3
          · rw [if_neg (fun z => z q), nI_clamp (by omega), if_pos ep]
          · rw [if_pos q]]
        exact ⟨rfl, zu_same _ _ _ _, zun (by decide), fun b b1 _ => zun b1, fun k _ _ _ k4 _ => zu_ne (Or.inr k4)⟩
      · replace c29z := zb_n0.mp c29z
        refine zr_iload 34 rfl rfl rfl ?_
        refine zr_iconst 35 (x := 0) rfl rfl (by decide) ?_
        refine zr_iconst 36 (x := 5) rfl rfl (by decide) ?_
        refine zr_calls 39 (As := [_, _, _]) (u2 := (0, 0)) rfl rfl rfl rfl rfl rfl rfl (Nat.le_of_ble_eq_true rfl) (Nat.le_of_ble_eq_true rfl) (Nat.le_of_ble_eq_true rfl) (c_Min _ _ _) rfl (fun v2 w2 h36z => ?_)
        obtain ⟨rfl, rfl⟩ := h36z
        refine zr_if_ne 44 42 rfl rfl (by decide) (fun c39z => ?_) (fun c39z => ?_)
        · replace c39z := zb_n0.mp c39z
          exact absurd c39z.2 (by decide)
        · replace c39z := zb_0.mp c39z
          refine zr_iconst 43 (x := 0) rfl rfl (by decide) ?_
          refine zr_iret rfl rfl ?_
          refine ⟨_, rfl, ?_⟩
          rw [show zactF K hp (ξ 67) (nI i) act v = (0, (0, ξ 67, 0)) by
            unfold zactF
            by_cases q : (0 ≤ nI i ∧ nI i < 4) ∧ 0 ≤ act ∧ act ≤ 3
            · rw [if_neg (fun z => z q), nI_clamp (by omega), if_pos ep]
            · rw [if_pos q]]
          exact ⟨rfl, zu_same _ _ _ _, zun (by decide), fun b b1 _ => zun b1, fun k _ _ _ k4 _ => zu_ne (Or.inr k4)⟩
set_option maxRecDepth 20000 in
set_option maxHeartbeats 1000000 in
theorem c_Mtrace {S : Nat × (Nat → Int32)} {d n : Nat} {ξ : Nat → Nat → Int32} {ρ : zRho} {N : Nat} (hN : ξ 42 45 = nI N) (h30 : N ≤ 30) (i : Int32) : Zc S (d + 2) jX6_trace [.ref 42, .int i] (zWof n ξ ρ) (fun r w => r = some (.int (if 0 ≤ i ∧ i < nI N then ξ 67 i.toNatClampNeg else -3)) ∧ w = zWof n ξ ρ) := by
  refine Zc_in (q := (6, 0, 1, 1, 2, 0, 0, zk_X6_trace)) rfl (Nat.le_of_ble_eq_true rfl) (L := [_, _]) rfl ?_
  refine zr_iload_n 1 rfl rfl rfl ?_
  refine zr_iconst 2 (x := 0) rfl rfl (by decide) ?_
  refine zr_aload_n 3 rfl rfl rfl trivial ?_
  refine zr_getf 6 rfl rfl rfl rfl rfl ?_
  refine zr_iconst 7 (x := 1) rfl rfl (by decide) ?_
  refine zr_isub 8 rfl rfl ?_
  refine zr_calls 11 (As := [_, _, _]) (u2 := (0, 0)) rfl rfl rfl rfl rfl rfl rfl (Nat.le_of_ble_eq_true rfl) (Nat.le_of_ble_eq_true rfl) (Nat.le_of_ble_eq_true rfl) (c_Min _ _ _) rfl (fun v2 w2 h8z => ?_)
  obtain ⟨rfl, rfl⟩ := h8z
  refine zr_if_eq 23 14 rfl rfl (by decide) (fun c11z => ?_) (fun c11z => ?_)
  · replace c11z := zb_0.mp c11z
    rw [hN, zle1 (by omega)] at c11z
    refine zr_bipush 25 (x := (-3)) rfl rfl (by decide) ?_
    refine zr_iret rfl rfl ?_
    refine ⟨?_, rfl⟩
    rw [if_neg c11z]
  · replace c11z := zb_n0.mp c11z
    rw [hN, zle1 (by omega)] at c11z
    refine zr_aload_n 15 rfl rfl rfl trivial ?_
    refine zr_getf 18 rfl rfl rfl rfl rfl ?_
    refine zr_iload_n 19 rfl rfl rfl ?_
    refine zr_iald 20 rfl rfl rfl rfl (zpin c11z (by omega) h30) ?_
    refine zr_goto 25 rfl (by decide) ?_
    refine zr_iret rfl rfl ?_
    refine ⟨?_, rfl⟩
    rw [if_pos c11z]
set_option maxRecDepth 20000 in
set_option maxHeartbeats 1000000 in
theorem c_Mmany {S : Nat × (Nat → Int32)} {d n : Nat} {ξ : Nat → Nat → Int32} {ρ : zRho} {K : zCs} (h : zMR ξ 0 K) (hK : zOK K) (what : Int32) : Zc S (d + 1) jX6_many [.ref 42, .int what] (zWof n ξ ρ) (fun r w => r = some (.int (if what = 0 then nI K.M else if what = 1 then nI K.D else if what = 2 then zcntF (fun i => ¬ K.p i 5 = -9) K.M else if what = 3 then ξ 42 33 else if what = 4 then ξ 42 13 else if what = 5 then ξ 42 45 else -1)) ∧ w = zWof n ξ ρ) := by
  have hd3 := hK.d3
  have hm6 := hK.m6
  have ht60 := hK.t60
  refine Zc_in (q := (6, 0, 1, 1, 4, 0, 0, zk_X6_many)) rfl (Nat.le_of_ble_eq_true rfl) (L := [_, _, _, _]) rfl ?_
  refine zr_iconst 1 (x := 0) rfl rfl (by decide) ?_
  refine zr_istore_n 2 (L2 := [_, _, _, _]) rfl rfl (Nat.le_of_ble_eq_true rfl) (by first | exact trivial | exact rfl) rfl ?_
  refine zr_iload_n 3 rfl rfl rfl ?_
  by_cases s3_0 : what = 0
  · refine zr_tsw_in 40 0 rfl (by rw [s3_0]; decide) (by decide) rfl (by decide) ?_
    refine zr_aload_n 41 rfl rfl rfl trivial ?_
    refine zr_getf 44 rfl rfl rfl rfl rfl ?_
    refine zr_iret rfl rfl ?_
    refine ⟨?_, rfl⟩
    rw [if_pos s3_0, h.hm]
  by_cases s3_1 : what = 1
  · refine zr_tsw_in 45 1 rfl (by rw [s3_1]; decide) (by decide) rfl (by decide) ?_
    refine zr_aload_n 46 rfl rfl rfl trivial ?_
    refine zr_getf 49 rfl rfl rfl rfl rfl ?_
    refine zr_iret rfl rfl ?_
    refine ⟨?_, rfl⟩
    rw [if_neg s3_0, if_pos s3_1, h.hd]
  by_cases s3_2 : what = 2
  · refine zr_tsw_in 50 2 rfl (by rw [s3_2]; decide) (by decide) rfl (by decide) ?_
    have key : ∀ (k : Nat) (j : Nat) (c : Int32), K.M - j = k → j ≤ K.M → c = zcntF (fun i => ¬ K.p i 5 = -9) j →  Zw S (Zc S d) 6 false 1 zk_X6_many (fun r w => r = some (.int (if what = 0 then nI K.M else if what = 1 then nI K.D else if what = 2 then zcntF (fun i => ¬ K.p i 5 = -9) K.M else if what = 3 then ξ 42 33 else if what = 4 then ξ 42 13 else if what = 5 then ξ 42 45 else -1)) ∧ w = zWof n ξ ρ) (52, [some (.ref 42), some (.int what), some (.int c), some (.int (nI j))], [], (0, 0), zWof n ξ ρ) := by
      intro k
      induction k using Nat.strongRecOn with
      | ind k ih =>
        intro j c hk hj hc
        refine zr_iload_n 53 rfl rfl rfl ?_
        refine zr_aload_n 54 rfl rfl rfl trivial ?_
        refine zr_getf 57 rfl rfl rfl rfl rfl ?_
        refine zr_icmp_ge 86 60 rfl rfl (by decide) (fun c57z => ?_) (fun c57z => ?_)
        · rw [h.hm, nI_leI (by omega) (by omega)] at c57z
          refine zr_iload_n 87 rfl rfl rfl ?_
          refine zr_iret rfl rfl ?_
          refine ⟨?_, rfl⟩
          rw [if_neg (by rw [s3_2]; decide), if_neg (by rw [s3_2]; decide), if_pos s3_2, hc, show j = K.M by omega]
        · rw [h.hm, nI_leI (by omega) (by omega)] at c57z
          have r7 : ξ 50 (7 + j) = zhd (K.p j 5) := by
            have q := h.k5 (i := j) (by omega)
            rw [Nat.zero_add] at q
            exact q
          have r9 := hK.h9 (i := j) (by omega)
          refine zr_iload_n 61 rfl rfl rfl ?_
          refine zr_aload_n 62 rfl rfl rfl trivial ?_
          refine zr_getf 65 rfl rfl rfl rfl rfl ?_
          refine zr_bipush 67 (x := 7) rfl rfl (by decide) ?_
          refine zr_iload_n 68 rfl rfl rfl ?_
          refine zr_iadd 69 rfl rfl ?_
          rw [show (7 : Int32) + nI j = nI (7 + j) from nI_add 7 j]
          refine zr_iald 70 rfl rfl rfl (nI_clamp (by omega)) (vp_in_nI (by omega) (by omega)) ?_
          refine zr_if_ge 77 73 rfl rfl (by decide) (fun c70z => ?_) (fun c70z => ?_)
          · rw [r7] at c70z
            have n9 := (zhd_neg r9).2.mp c70z
            refine zr_iconst 78 (x := 1) rfl rfl (by decide) ?_
            refine zr_iadd 79 rfl rfl ?_
            refine zr_istore_n 80 (L2 := [_, _, _, _]) rfl rfl (Nat.le_of_ble_eq_true rfl) (by first | exact trivial | exact rfl) rfl ?_
            refine zr_iinc 83 (c0 := 1) (L2 := [_, _, _, _]) rfl rfl rfl (by first | exact trivial | exact rfl) (by decide) rfl ?_
            refine zr_goto 52 rfl (by decide) ?_
            rw [nI_1]
            refine ih _ (by omega) (j + 1) _ rfl (by omega) ?_
            unfold zcntF
            rw [if_pos n9, hc]
          · rw [r7] at c70z
            have n9 := (zhd_neg r9).1.mp (Int32.not_le.mp c70z)
            refine zr_iconst 74 (x := 0) rfl rfl (by decide) ?_
            refine zr_goto 78 rfl (by decide) ?_
            refine zr_iadd 79 rfl rfl ?_
            refine zr_istore_n 80 (L2 := [_, _, _, _]) rfl rfl (Nat.le_of_ble_eq_true rfl) (by first | exact trivial | exact rfl) rfl ?_
            refine zr_iinc 83 (c0 := 1) (L2 := [_, _, _, _]) rfl rfl rfl (by first | exact trivial | exact rfl) (by decide) rfl ?_
            refine zr_goto 52 rfl (by decide) ?_
            rw [nI_1]
            refine ih _ (by omega) (j + 1) _ rfl (by omega) ?_
            unfold zcntF
            rw [if_neg (fun z => z n9), hc, Int32.add_zero]
    refine zr_iconst 51 (x := 0) rfl rfl (by decide) ?_
    refine zr_istore_n 52 (L2 := [_, _, _, _]) rfl rfl (Nat.le_of_ble_eq_true rfl) (by first | exact trivial | exact rfl) rfl ?_
    exact key _ 0 0 rfl (Nat.zero_le _) rfl
  by_cases s3_3 : what = 3
  · refine zr_tsw_in 88 3 rfl (by rw [s3_3]; decide) (by decide) rfl (by decide) ?_
    refine zr_aload_n 89 rfl rfl rfl trivial ?_
    refine zr_getf 92 rfl rfl rfl rfl rfl ?_
    refine zr_iret rfl rfl ?_
    refine ⟨?_, rfl⟩
    rw [if_neg s3_0, if_neg s3_1, if_neg s3_2, if_pos s3_3]
  by_cases s3_4 : what = 4
  · refine zr_tsw_in 93 4 rfl (by rw [s3_4]; decide) (by decide) rfl (by decide) ?_
    refine zr_aload_n 94 rfl rfl rfl trivial ?_
    refine zr_getf 97 rfl rfl rfl rfl rfl ?_
    refine zr_iret rfl rfl ?_
    refine ⟨?_, rfl⟩
    rw [if_neg s3_0, if_neg s3_1, if_neg s3_2, if_neg s3_3, if_pos s3_4]
  by_cases s3_5 : what = 5
  · refine zr_tsw_in 98 5 rfl (by rw [s3_5]; decide) (by decide) rfl (by decide) ?_
    refine zr_aload_n 99 rfl rfl rfl trivial ?_
    refine zr_getf 102 rfl rfl rfl rfl rfl ?_
    refine zr_iret rfl rfl ?_
    refine ⟨?_, rfl⟩
    rw [if_neg s3_0, if_neg s3_1, if_neg s3_2, if_neg s3_3, if_neg s3_4, if_pos s3_5]
  refine zr_tsw_out 103 rfl (by have q0 := zne_i s3_0; have q1 := zne_i s3_1; have q2 := zne_i s3_2; have q3 := zne_i s3_3; have q4 := zne_i s3_4; have q5 := zne_i s3_5; rw [show (0 : Int32).toInt = 0 by decide] at q0; rw [show (1 : Int32).toInt = 1 by decide] at q1; rw [show (2 : Int32).toInt = 2 by decide] at q2; rw [show (3 : Int32).toInt = 3 by decide] at q3; rw [show (4 : Int32).toInt = 4 by decide] at q4; rw [show (5 : Int32).toInt = 5 by decide] at q5; omega) (by decide) ?_
  refine zr_iconst 104 (x := (-1)) rfl rfl (by decide) ?_
  refine zr_iret rfl rfl ?_
  refine ⟨?_, rfl⟩
  rw [if_neg s3_0, if_neg s3_1, if_neg s3_2, if_neg s3_3, if_neg s3_4, if_neg s3_5]
