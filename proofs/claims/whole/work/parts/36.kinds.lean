theorem zka_r {k : Int32} (h : -1 ≤ zka k ∧ zka k ≤ 5) : True := trivial
theorem zkind6 {k : Int32} (h0 : 0 ≤ k.toInt) (h5 : k.toInt ≤ 5) : k = 0 ∨ k = 1 ∨ k = 2 ∨ k = 3 ∨ k = 4 ∨ k = 5 := by
  have e : ∀ j : Int32, k.toInt = j.toInt → k = j := fun j q => Int32.toInt_inj.mp q
  rcases (by omega : k.toInt = 0 ∨ k.toInt = 1 ∨ k.toInt = 2 ∨ k.toInt = 3 ∨ k.toInt = 4 ∨ k.toInt = 5) with q | q | q | q | q | q
  · exact Or.inl (e 0 q)
  · exact Or.inr (Or.inl (e 1 q))
  · exact Or.inr (Or.inr (Or.inl (e 2 q)))
  · exact Or.inr (Or.inr (Or.inr (Or.inl (e 3 q))))
  · exact Or.inr (Or.inr (Or.inr (Or.inr (Or.inl (e 4 q)))))
  · exact Or.inr (Or.inr (Or.inr (Or.inr (Or.inr (e 5 q)))))
theorem zka_ct (S : Nat × (Nat → Int32)) {k : Int32} (h0 : 0 ≤ k.toInt) (h5 : k.toInt ≤ 5) : (zct S 3).2 k.toNatClampNeg = zka k := by
  rcases zkind6 h0 h5 with rfl | rfl | rfl | rfl | rfl | rfl <;> rfl
theorem zka_to (k : Int32) : -1 ≤ (zka k).toInt ∧ (zka k).toInt ≤ 5 := by
  unfold zka
  split
  · decide
  split
  · decide
  split <;> decide
set_option maxRecDepth 20000 in
set_option maxHeartbeats 1000000 in
theorem c_isOfKind {S : Nat × (Nat → Int32)} {d n : Nat} {ξ : Nat → Nat → Int32} {ρ : zRho} (k a : Int32) (h0 : 0 ≤ k.toInt) (h5 : k.toInt ≤ 5) : Zc S (d + 1) jX5_isOfKind [.int k, .int a] (zWof n ξ ρ) (fun r w => r = some (.int (zb (zofk 6 k a = true))) ∧ w = zWof n ξ ρ) := by
  refine Zc_in (q := (5, 2, 3, 2, 4, 0, 0, zk_X5_isOfKind)) rfl (Nat.le_of_ble_eq_true rfl) (L := [_, _, _, _]) rfl ?_
  have key : ∀ (kz : Nat) (i : Nat) (b : Int32), 6 - i = kz → i ≤ 6 → -1 ≤ b.toInt ∧ b.toInt ≤ 5 → zofk 6 k a = zofk (6 - i) b a →  Zw S (Zc S d) 5 false 3 zk_X5_isOfKind (fun r w => r = some (.int (zb (zofk 6 k a = true))) ∧ w = zWof n ξ ρ) (4, [some (.int k), some (.int a), some (.int b), some (.int (nI i))], [], (0, 0), zWof n ξ ρ) := by
    intro kz
    induction kz using Nat.strongRecOn with
    | ind kz ih =>
      intro i b hk hi hb ee
      refine zr_iload_n 5 rfl rfl rfl ?_
      refine zr_bipush 7 (x := 6) rfl rfl (by decide) ?_
      refine zr_icmp_ge 33 10 rfl rfl (by decide) (fun c7z => ?_) (fun c7z => ?_)
      · rw [show (6 : Int32) = nI 6 from rfl, nI_leI (by omega) (by omega)] at c7z
        refine zr_iconst 34 (x := 0) rfl rfl (by decide) ?_
        refine zr_zret rfl rfl (Or.inl rfl) ?_
        refine ⟨?_, rfl⟩
        rw [zb_f (by rw [ee, show 6 - i = 0 by omega]; exact Bool.false_ne_true)]
      · rw [show (6 : Int32) = nI 6 from rfl, nI_leI (by omega) (by omega)] at c7z
        have ee2 : zofk 6 k a = (decide (0 ≤ b) && (decide (b = a) || zofk (6 - (i + 1)) (zka b) a)) := by
          rw [ee, show 6 - i = 6 - (i + 1) + 1 by omega]
          rfl
        refine zr_iload_n 11 rfl rfl rfl ?_
        refine zr_if_lt 33 14 rfl rfl (by decide) (fun c11z => ?_) (fun c11z => ?_)
        · refine zr_iconst 34 (x := 0) rfl rfl (by decide) ?_
          refine zr_zret rfl rfl (Or.inl rfl) ?_
          refine ⟨?_, rfl⟩
          rw [zb_f (by rw [ee2, decide_eq_false (Int32.not_le.mpr c11z)]; exact Bool.false_ne_true)]
        · have hb0 : 0 ≤ b.toInt := by
            have := Int32.le_iff_toInt_le.mp (Int32.not_lt.mp c11z)
            rw [zI0] at this
            exact this
          refine zr_iload_n 15 rfl rfl rfl ?_
          refine zr_iload_n 16 rfl rfl rfl ?_
          refine zr_icmp_ne 21 19 rfl rfl (by decide) (fun c16z => ?_) (fun c16z => ?_)
          · refine zr_gets 24 rfl rfl rfl ?_
            refine zr_iload_n 25 rfl rfl rfl ?_
            refine zr_ialc 26 rfl rfl (by decide) rfl (show vp_in b 6 by rw [vp_in_iff]; exact ⟨hb0, by omega⟩) ?_
            refine zr_istore_n 27 (L2 := [_, _, _, _]) rfl rfl (Nat.le_of_ble_eq_true rfl) (by first | exact trivial | exact rfl) rfl ?_
            refine zr_iinc 30 (c0 := 1) (L2 := [_, _, _, _]) rfl rfl rfl (by first | exact trivial | exact rfl) (by decide) rfl ?_
            refine zr_goto 4 rfl (by decide) ?_
            rw [nI_1, zka_ct S hb0 hb.2]
            exact ih _ (by omega) (i + 1) _ rfl (by omega) (zka_to b) (by rw [ee2, decide_eq_true (Int32.not_lt.mp c11z), decide_eq_false c16z]; rfl)
          · refine zr_iconst 20 (x := 1) rfl rfl (by decide) ?_
            refine zr_zret rfl rfl (Or.inr rfl) ?_
            refine ⟨?_, rfl⟩
            rw [zb_t (by rw [ee2, decide_eq_true (Int32.not_lt.mp c11z), decide_eq_true c16z]; rfl)]
  refine zr_iload_n 1 rfl rfl rfl ?_
  refine zr_istore_n 2 (L2 := [_, _, _, _]) rfl rfl (Nat.le_of_ble_eq_true rfl) (by first | exact trivial | exact rfl) rfl ?_
  refine zr_iconst 3 (x := 0) rfl rfl (by decide) ?_
  refine zr_istore_n 4 (L2 := [_, _, _, _]) rfl rfl (Nat.le_of_ble_eq_true rfl) (by first | exact trivial | exact rfl) rfl ?_
  exact key _ 0 k rfl (by omega) (by omega) rfl
theorem zpon_r {K : zCs} {hp : Nat → Int32} {i : Nat} (h : ¬ zpon K hp i = -1) : 0 ≤ zpon K hp i ∧ zpon K hp i < nI K.M := by
  unfold zpon at h ⊢
  by_cases q : 0 ≤ hp i ∧ hp i < nI K.M
  · rw [if_pos q]
    exact q
  · rw [if_neg q] at h
    exact absurd rfl h
set_option maxRecDepth 20000 in
set_option maxHeartbeats 1000000 in
theorem c_taken {S : Nat × (Nat → Int32)} {d n : Nat} {ξ : Nat → Nat → Int32} {ρ : zRho} {K : zCs} (h : zXR ξ 1 K) (hK : zOK K) {sh : zSh} {sl : zSl} (hS : zXS n ρ sh sl) (x a : Int32) : Zc S (d + 3) jX5_taken [.ref 0, .int x, .int a] (zWof n ξ ρ) (fun r w => r = some (.int (ztakenF K (ξ 39) sl x a)) ∧ w = zWof n ξ ρ) := by
  have hd3 := hK.d3
  have hm6 := hK.m6
  have ht60 := hK.t60
  refine Zc_in (q := (5, 0, 1, 2, 6, 0, 0, zk_X5_taken)) rfl (Nat.le_of_ble_eq_true rfl) (L := [_, _, _, _, _, _]) rfl ?_
  have key67 : ∀ (k : Nat) (e : Int32) (b : Nat) (so : Int32) (sz : Nat) (it : Nat → Int64) (e4 : Int32), k < 4 → (¬ e = 0 ↔ zasr a) → (zasr a ∨ (0 ≤ a ∧ a < 6)) → sl k = some (so, sz) → zsAt n ρ b so sz it →  Zw S (Zc S (d + 2)) 5 false 1 zk_X5_taken (fun r w => r = some (.int (ztakenF K (ξ 39) sl (nI k) a)) ∧ w = zWof n ξ ρ) (67, [some (.ref 0), some (.int (nI k)), some (.int a), some (.int e), some (.int e4), some (.ref b)], [], (0, 0), zWof n ξ ρ) := by
    intro k e b so sz it e4 hi he hcond e2 hA
    have hq : ztakenF K (ξ 39) sl (nI k) a = (match sl k with
      | some s => if zasr a ∧ s.1 = a - 10 then nI s.2 else -13
      | none => if zpon K (ξ 39) k = -1 then -11 else if ¬ zasr a ∧ zofk 6 (K.p (zpon K (ξ 39) k).toNatClampNeg 0) a = true then zpon K (ξ 39) k else -13) := by
      unfold ztakenF
      rw [if_neg (Decidable.not_not.mpr ⟨⟨nI_pos' (by omega), nI_lt (b := 4) hi (by omega)⟩, hcond⟩), nI_clamp (by omega)] <;> rfl
    rw [hq]
    rw [e2]
    refine zr_aload 69 rfl rfl rfl trivial ?_
    refine zr_ifnull_r 100 72 rfl rfl (by decide) ?_
    refine zr_iload_n 73 rfl rfl rfl ?_
    refine zr_if_eq 97 76 rfl rfl (by decide) (fun c73z => ?_) (fun c73z => ?_)
    · refine zr_bipush 99 (x := (-13)) rfl rfl (by decide) ?_
      refine zr_iret rfl rfl ?_
      refine ⟨?_, rfl⟩
      show _ = some (Value.int (if zasr a ∧ so = a - 10 then nI sz else -13))
      rw [if_neg (fun z => he.mpr z.1 c73z)]
    · refine zr_aload 78 rfl rfl rfl trivial ?_
      refine zr_getf 81 rfl rfl rfl ((zc_hi hA.1).trans hA.2.2.2.2.2.1) rfl ?_
      refine zr_iload_n 82 rfl rfl rfl ?_
      refine zr_bipush 84 (x := 10) rfl rfl (by decide) ?_
      refine zr_isub 85 rfl rfl ?_
      refine zr_icmp_ne 97 88 rfl rfl (by decide) (fun c85z => ?_) (fun c85z => ?_)
      · refine zr_bipush 99 (x := (-13)) rfl rfl (by decide) ?_
        refine zr_iret rfl rfl ?_
        refine ⟨?_, rfl⟩
        show _ = some (Value.int (if zasr a ∧ so = a - 10 then nI sz else -13))
        rw [if_neg (fun z => c85z z.2)]
      · refine zr_aload 90 rfl rfl rfl trivial ?_
        refine zr_getf 93 rfl rfl rfl ((zc_hi hA.1).trans hA.2.2.2.2.2.1) rfl ?_
        refine zr_alen 94 rfl rfl ((zc_hi (by have := hA.1; omega)).trans hA.2.2.2.2.2.2) (by decide) rfl ?_
        refine zr_goto 99 rfl (by decide) ?_
        refine zr_iret rfl rfl ?_
        refine ⟨?_, rfl⟩
        show _ = some (Value.int (if zasr a ∧ so = a - 10 then nI sz else -13))
        rw [if_pos ⟨he.mp c73z, c85z⟩]
        rfl
  have key38 : ∀ (k : Nat) (e : Int32), k < 4 → (¬ e = 0 ↔ zasr a) → (zasr a ∨ (0 ≤ a ∧ a < 6)) →  Zw S (Zc S (d + 2)) 5 false 1 zk_X5_taken (fun r w => r = some (.int (ztakenF K (ξ 39) sl (nI k) a)) ∧ w = zWof n ξ ρ) (38, [some (.ref 0), some (.int (nI k)), some (.int a), some (.int e), none, none], [], (0, 0), zWof n ξ ρ) := by
    intro k e hi he hcond
    refine zr_aload_n 39 rfl rfl rfl trivial ?_
    refine zr_iload_n 40 rfl rfl rfl ?_
    refine zr_callv 43 (As := [_]) (u2 := (0, 0)) rfl rfl rfl rfl rfl rfl rfl (Nat.le_of_ble_eq_true rfl) (Nat.le_of_ble_eq_true rfl) (Nat.le_of_ble_eq_true rfl) rfl (c_personOn h (by omega)) rfl (fun v2 w2 h40z => ?_)
    obtain ⟨rfl, rfl⟩ := h40z
    refine zr_istore 45 (L2 := [_, _, _, _, _, _]) rfl rfl (Nat.le_of_ble_eq_true rfl) (by first | exact trivial | exact rfl) rfl ?_
    refine zr_aload_n 46 rfl rfl rfl trivial ?_
    refine zr_getf 49 rfl rfl rfl rfl rfl ?_
    refine zr_iload_n 50 rfl rfl rfl ?_
    rcases zxsl hS hi with ⟨e1, e2⟩ | ⟨b, so, sz, it, e1, e2, hA⟩
    · have hq : ztakenF K (ξ 39) sl (nI k) a = (match sl k with
        | some s => if zasr a ∧ s.1 = a - 10 then nI s.2 else -13
        | none => if zpon K (ξ 39) k = -1 then -11 else if ¬ zasr a ∧ zofk 6 (K.p (zpon K (ξ 39) k).toNatClampNeg 0) a = true then zpon K (ξ 39) k else -13) := by
        unfold ztakenF
        rw [if_neg (Decidable.not_not.mpr ⟨⟨nI_pos' (by omega), nI_lt (b := 4) hi (by omega)⟩, hcond⟩), nI_clamp (by omega)] <;> rfl
      rw [hq]
      rw [e2]
      refine zr_aald 51 rfl rfl rfl (by decide) (nI_clamp (by omega)) (vp_in_nI (by omega) (by omega)) (show va_rf _ = .null by rw [e1] <;> rfl) ?_
      refine zr_astore 53 (L2 := [_, _, _, _, _, _]) rfl rfl trivial (Nat.le_of_ble_eq_true rfl) (by first | exact trivial | exact rfl) rfl ?_
      refine zr_iload 55 rfl rfl rfl ?_
      refine zr_iconst 56 (x := (-1)) rfl rfl (by decide) ?_
      refine zr_icmp_ne 67 59 rfl rfl (by decide) (fun c56z => ?_) (fun c56z => ?_)
      · have hpr := zpon_r c56z
        obtain ⟨j, hj, ej⟩ := zperI rfl (by omega) hpr
        rw [ej] at c56z ⊢
        refine zr_aload 69 rfl rfl rfl trivial ?_
        refine zr_ifnull_n 100 rfl (by decide) ?_
        refine zr_iload_n 101 rfl rfl rfl ?_
        refine zr_if_ne 129 104 rfl rfl (by decide) (fun c101z => ?_) (fun c101z => ?_)
        · refine zr_bipush 131 (x := (-13)) rfl rfl (by decide) ?_
          refine zr_iret rfl rfl ?_
          refine ⟨?_, rfl⟩
          show _ = some (Value.int (if nI j = -1 then -11 else if ¬ zasr a ∧ zofk 6 (K.p (nI j).toNatClampNeg 0) a = true then nI j else -13))
          rw [if_neg c56z, nI_clamp (by omega)]
          rw [if_neg (fun z => z.1 (he.mp c101z))]
        · refine zr_aload_n 105 rfl rfl rfl trivial ?_
          refine zr_getf 108 rfl rfl rfl rfl rfl ?_
          refine zr_getf 111 rfl rfl rfl rfl rfl ?_
          refine zr_iload 113 rfl rfl rfl ?_
          refine zr_aald 114 rfl rfl rfl (by decide) (nI_clamp (by omega)) (vp_in_nI (by omega) (by omega)) (zrf_ps (by omega)) ?_
          refine zr_getf 117 rfl rfl rfl (zc_pe (zP zc1 (by omega))) rfl ?_
          refine zr_iload_n 118 rfl rfl rfl ?_
          rw [h.hp j hj 0 (by decide)]
          refine zr_calls 121 (As := [_, _]) (u2 := (0, 0)) rfl rfl rfl rfl rfl rfl rfl (Nat.le_of_ble_eq_true rfl) (Nat.le_of_ble_eq_true rfl) (Nat.le_of_ble_eq_true rfl) (c_isOfKind _ _ (hK.hp j hj).h0.1 (hK.hp j hj).h0.2) rfl (fun v2 w2 h118z => ?_)
          obtain ⟨rfl, rfl⟩ := h118z
          refine zr_if_eq 129 124 rfl rfl (by decide) (fun c121z => ?_) (fun c121z => ?_)
          · replace c121z := zb_0.mp c121z
            refine zr_bipush 131 (x := (-13)) rfl rfl (by decide) ?_
            refine zr_iret rfl rfl ?_
            refine ⟨?_, rfl⟩
            show _ = some (Value.int (if nI j = -1 then -11 else if ¬ zasr a ∧ zofk 6 (K.p (nI j).toNatClampNeg 0) a = true then nI j else -13))
            rw [if_neg c56z, nI_clamp (by omega)]
            rw [if_neg (fun z => c121z z.2)]
          · replace c121z := zb_n0.mp c121z
            refine zr_iload 126 rfl rfl rfl ?_
            refine zr_goto 131 rfl (by decide) ?_
            refine zr_iret rfl rfl ?_
            refine ⟨?_, rfl⟩
            show _ = some (Value.int (if nI j = -1 then -11 else if ¬ zasr a ∧ zofk 6 (K.p (nI j).toNatClampNeg 0) a = true then nI j else -13))
            rw [if_neg c56z, nI_clamp (by omega)]
            rw [if_pos ⟨fun z => he.mpr z c101z, c121z⟩]
      · refine zr_aload 61 rfl rfl rfl trivial ?_
        refine zr_ifnonnull_n 67 64 rfl rfl (by decide) ?_
        refine zr_bipush 66 (x := (-11)) rfl rfl (by decide) ?_
        refine zr_iret rfl rfl ?_
        refine ⟨?_, rfl⟩
        show _ = some (Value.int (if zpon K (ξ 39) k = -1 then -11 else _))
        rw [if_pos c56z]
    · refine zr_aald 51 rfl rfl rfl (by decide) (nI_clamp (by omega)) (vp_in_nI (by omega) (by omega)) (show va_rf _ = .ref b by rw [e1] <;> rfl) ?_
      refine zr_astore 53 (L2 := [_, _, _, _, _, _]) rfl rfl trivial (Nat.le_of_ble_eq_true rfl) (by first | exact trivial | exact rfl) rfl ?_
      refine zr_iload 55 rfl rfl rfl ?_
      refine zr_iconst 56 (x := (-1)) rfl rfl (by decide) ?_
      refine zr_icmp_ne 67 59 rfl rfl (by decide) (fun c56z => ?_) (fun c56z => ?_)
      · exact key67 k e b so sz it _ hi he hcond e2 hA
      · refine zr_aload 61 rfl rfl rfl trivial ?_
        refine zr_ifnonnull_r 67 rfl (by decide) ?_
        exact key67 k e b so sz it _ hi he hcond e2 hA
  have key18 : ∀ (e : Int32), (¬ e = 0 ↔ zasr a) →  Zw S (Zc S (d + 2)) 5 false 1 zk_X5_taken (fun r w => r = some (.int (ztakenF K (ξ 39) sl x a)) ∧ w = zWof n ξ ρ) (18, [some (.ref 0), some (.int x), some (.int a), some (.int e), none, none], [], (0, 0), zWof n ξ ρ) := by
    intro e he
    refine zr_iload_n 19 rfl rfl rfl ?_
    refine zr_calls 22 (As := [_]) (u2 := (0, 0)) rfl rfl rfl rfl rfl rfl rfl (Nat.le_of_ble_eq_true rfl) (Nat.le_of_ble_eq_true rfl) (Nat.le_of_ble_eq_true rfl) (c_isShelf _) rfl (fun v2 w2 h19z => ?_)
    obtain ⟨rfl, rfl⟩ := h19z
    refine zr_if_eq 36 25 rfl rfl (by decide) (fun c22z => ?_) (fun c22z => ?_)
    · replace c22z := zb_0.mp c22z
      refine zr_iconst 37 (x := (-1)) rfl rfl (by decide) ?_
      refine zr_iret rfl rfl ?_
      refine ⟨?_, rfl⟩
      unfold ztakenF
      rw [if_pos (fun z => c22z z.1)]
    · replace c22z := zb_n0.mp c22z
      refine zr_iload_n 26 rfl rfl rfl ?_
      refine zr_if_ne 38 29 rfl rfl (by decide) (fun c26z => ?_) (fun c26z => ?_)
      · obtain ⟨k, hi, rfl⟩ := zperI (M := 4) rfl (by decide) c22z
        exact key38 k e hi he (Or.inl (he.mp c26z))
      · refine zr_iload_n 30 rfl rfl rfl ?_
        refine zr_calls 33 (As := [_]) (u2 := (0, 0)) rfl rfl rfl rfl rfl rfl rfl (Nat.le_of_ble_eq_true rfl) (Nat.le_of_ble_eq_true rfl) (Nat.le_of_ble_eq_true rfl) (c_isKind _) rfl (fun v2 w2 h30z => ?_)
        obtain ⟨rfl, rfl⟩ := h30z
        refine zr_if_ne 38 36 rfl rfl (by decide) (fun c33z => ?_) (fun c33z => ?_)
        · replace c33z := zb_n0.mp c33z
          obtain ⟨k, hi, rfl⟩ := zperI (M := 4) rfl (by decide) c22z
          exact key38 k e hi he (Or.inr c33z)
        · replace c33z := zb_0.mp c33z
          refine zr_iconst 37 (x := (-1)) rfl rfl (by decide) ?_
          refine zr_iret rfl rfl ?_
          refine ⟨?_, rfl⟩
          unfold ztakenF
          rw [if_pos (fun z => z.2.elim (fun q => absurd c26z (he.mpr q)) c33z)]
  refine zr_iload_n 1 rfl rfl rfl ?_
  refine zr_bipush 3 (x := 10) rfl rfl (by decide) ?_
  refine zr_icmp_lt 16 6 rfl rfl (by decide) (fun c3z => ?_) (fun c3z => ?_)
  · refine zr_iconst 17 (x := 0) rfl rfl (by decide) ?_
    refine zr_istore_n 18 (L2 := [_, _, _, _, _, _]) rfl rfl (Nat.le_of_ble_eq_true rfl) (by first | exact trivial | exact rfl) rfl ?_
    exact key18 0 ⟨fun z => absurd rfl z, fun z => absurd z.1 (Int32.not_le.mpr c3z)⟩
  · refine zr_iload_n 7 rfl rfl rfl ?_
    refine zr_bipush 9 (x := 14) rfl rfl (by decide) ?_
    refine zr_icmp_ge 16 12 rfl rfl (by decide) (fun c9z => ?_) (fun c9z => ?_)
    · refine zr_iconst 17 (x := 0) rfl rfl (by decide) ?_
      refine zr_istore_n 18 (L2 := [_, _, _, _, _, _]) rfl rfl (Nat.le_of_ble_eq_true rfl) (by first | exact trivial | exact rfl) rfl ?_
      exact key18 0 ⟨fun z => absurd rfl z, fun z => absurd z.2 (Int32.not_lt.mpr c9z)⟩
    · refine zr_iconst 13 (x := 1) rfl rfl (by decide) ?_
      refine zr_goto 17 rfl (by decide) ?_
      refine zr_istore_n 18 (L2 := [_, _, _, _, _, _]) rfl rfl (Nat.le_of_ble_eq_true rfl) (by first | exact trivial | exact rfl) rfl ?_
      exact key18 1 ⟨fun _ => ⟨Int32.not_lt.mp c3z, Int32.not_le.mp c9z⟩, fun _ => by decide⟩
theorem zmnd_M (K : zCs) (p i : Nat) (it : Nat → Int64) : ∀ k, (zmnd K p i it k).M = K.M
  | 0 => rfl
  | k + 1 => zmnd_M K p i it k
set_option maxRecDepth 20000 in
set_option maxHeartbeats 1000000 in
theorem c_minds {S : Nat × (Nat → Int32)} {d n : Nat} {ξ : Nat → Nat → Int32} {ρ : zRho} {K : zCs} (h : zXR ξ 1 K) (hK : zOK K) {sh : zSh} {sl : zSl} (hS : zXS n ρ sh sl) (x i p m : Int32) : Zc S (d + 2) jX5_minds [.ref 0, .int x, .int i, .int p, .int m] (zWof n ξ ρ) (fun r w => ∃ ξ2, w = zWof n ξ2 ρ ∧ r = some (.int (zmindsF K sh x i p m).2) ∧ zXR ξ2 1 (zmindsF K sh x i p m).1 ∧ zfrA 1 ξ ξ2) := by
  have hd3 := hK.d3
  have hm6 := hK.m6
  have ht60 := hK.t60
  refine Zc_in (q := (5, 0, 1, 4, 7, 0, 0, zk_X5_minds)) rfl (Nat.le_of_ble_eq_true rfl) (L := [_, _, _, _, _, _, _]) rfl ?_
  have key : ∀ (kz : Nat) (k : Nat) (pp : Nat) (mm : Nat) (ii : Nat) (q : Nat) (b : Nat) (sz : Nat) (so : Int32) (it : Nat → Int64) (ξ1 : Nat → Nat → Int32), mm - q = kz → zsAt n ρ b so sz it → pp + mm ≤ K.M → ii + mm ≤ sz → q ≤ mm → zXR ξ1 1 (zmnd K pp ii it q) → zfrA 1 ξ ξ1 →  Zw S (Zc S (d + 1)) 5 false 1 zk_X5_minds (fun r w => ∃ ξ2, w = zWof n ξ2 ρ ∧ r = some (.int (nI mm)) ∧ zXR ξ2 1 (zmnd K pp ii it mm) ∧ zfrA 1 ξ ξ2) (93, [some (.ref 0), some (.int (nI k)), some (.int (nI ii)), some (.int (nI pp)), some (.int (nI mm)), some (.ref b), some (.int (nI q))], [], (0, 0), zWof n ξ1 ρ) := by
    intro kz
    induction kz using Nat.strongRecOn with
    | ind kz ih =>
      intro k pp mm ii q b sz so it ξ1 hk hA hpm hii hqm x1 f1
      refine zr_iload 95 rfl rfl rfl ?_
      refine zr_iload 97 rfl rfl rfl ?_
      refine zr_icmp_ge 141 100 rfl rfl (by decide) (fun c97z => ?_) (fun c97z => ?_)
      · rw [nI_leI (by omega) (by omega)] at c97z
        refine zr_iload 143 rfl rfl rfl ?_
        refine zr_iret rfl rfl ?_
        exact ⟨ξ1, rfl, rfl, by rw [show mm = q by omega]; exact x1, f1⟩
      · rw [nI_leI (by omega) (by omega)] at c97z
        have hs40 := hA.2.2.2.1
        refine zr_aload_n 101 rfl rfl rfl trivial ?_
        refine zr_getf 104 rfl rfl rfl rfl rfl ?_
        refine zr_getf 107 rfl rfl rfl rfl rfl ?_
        refine zr_iload_n 108 rfl rfl rfl ?_
        refine zr_iload 110 rfl rfl rfl ?_
        refine zr_iadd 111 rfl rfl ?_
        rw [nI_add]
        refine zr_aald 112 rfl rfl rfl (by decide) (nI_clamp (by omega)) (vp_in_nI (by omega) (by omega)) (zrf_ps (by omega)) ?_
        refine zr_iconst 113 (x := 0) rfl rfl (by decide) ?_
        refine zr_bipush 115 (x := 9) rfl rfl (by decide) ?_
        refine zr_aload 117 rfl rfl rfl trivial ?_
        refine zr_getf 120 rfl rfl rfl ((zc_hi hA.1).trans hA.2.2.2.2.2.1) rfl ?_
        refine zr_iload_n 121 rfl rfl rfl ?_
        refine zr_iload 123 rfl rfl rfl ?_
        refine zr_iadd 124 rfl rfl ?_
        rw [nI_add]
        refine zr_lald 125 rfl rfl ((zc_hi (by have := hA.1; omega)).trans hA.2.2.2.2.2.2) (nI_clamp (by omega)) (vp_in_nI (by omega) (by omega)) ?_
        refine zr_l2i 126 rfl rfl ?_
        refine zr_min 129 rfl rfl rfl (Nat.le_of_ble_eq_true rfl) rfl ?_
        refine zr_max 132 rfl rfl rfl (Nat.le_of_ble_eq_true rfl) rfl ?_
        refine zr_putf 135 rfl rfl rfl (zc_pe (zP zc1 (by omega))) (Nat.le_of_ble_eq_true rfl) rfl trivial (fun h => by cases h) (zs_pe (zP zc1 (by omega)) 1 (by decide) _) ?_
        refine zr_iinc 138 (c0 := 1) (L2 := [_, _, _, _, _, _, _]) rfl rfl rfl (by first | exact trivial | exact rfl) (by decide) rfl ?_
        refine zr_goto 93 rfl (by decide) ?_
        rw [nI_1]
        refine ih _ (by omega) k pp mm ii (q + 1) b sz so it _ rfl hA hpm hii (by omega) (x1.sp _) (fun a ha => ?_)
        rw [zun (by omega)]
        exact f1 a ha
  refine zr_iload_n 1 rfl rfl rfl ?_
  refine zr_calls 4 (As := [_]) (u2 := (0, 0)) rfl rfl rfl rfl rfl rfl rfl (Nat.le_of_ble_eq_true rfl) (Nat.le_of_ble_eq_true rfl) (Nat.le_of_ble_eq_true rfl) (c_isSheet _) rfl (fun v2 w2 h1z => ?_)
  obtain ⟨rfl, rfl⟩ := h1z
  refine zr_if_eq 41 7 rfl rfl (by decide) (fun c4z => ?_) (fun c4z => ?_)
  · replace c4z := zb_0.mp c4z
    refine zr_iconst 42 (x := (-1)) rfl rfl (by decide) ?_
    refine zr_iret rfl rfl ?_
    refine ⟨ξ, rfl, ?_⟩
    rw [show zmindsF K sh x i p m = _ from if_pos (fun z => c4z z.1)]
    exact ⟨rfl, h, fun _ _ => rfl⟩
  · replace c4z := zb_n0.mp c4z
    refine zr_aload_n 8 rfl rfl rfl trivial ?_
    refine zr_iload_n 9 rfl rfl rfl ?_
    refine zr_callv 12 (As := [_]) (u2 := (0, 0)) rfl rfl rfl rfl rfl rfl rfl (Nat.le_of_ble_eq_true rfl) (Nat.le_of_ble_eq_true rfl) (Nat.le_of_ble_eq_true rfl) rfl (c_isPerson _) rfl (fun v2 w2 h9z => ?_)
    obtain ⟨rfl, rfl⟩ := h9z
    refine zr_if_eq 41 15 rfl rfl (by decide) (fun c12z => ?_) (fun c12z => ?_)
    · replace c12z := zb_0.mp c12z
      refine zr_iconst 42 (x := (-1)) rfl rfl (by decide) ?_
      refine zr_iret rfl rfl ?_
      refine ⟨ξ, rfl, ?_⟩
      rw [show zmindsF K sh x i p m = _ from if_pos (fun z => c12z (by rw [h.hm]; exact z.2.1))]
      exact ⟨rfl, h, fun _ _ => rfl⟩
    · replace c12z := zb_n0.mp c12z
      refine zr_iload 17 rfl rfl rfl ?_
      refine zr_if_lt 41 20 rfl rfl (by decide) (fun c17z => ?_) (fun c17z => ?_)
      · refine zr_iconst 42 (x := (-1)) rfl rfl (by decide) ?_
        refine zr_iret rfl rfl ?_
        refine ⟨ξ, rfl, ?_⟩
        rw [show zmindsF K sh x i p m = _ from if_pos (fun z => absurd z.2.2.1 (Int32.not_le.mpr c17z))]
        exact ⟨rfl, h, fun _ _ => rfl⟩
      · refine zr_iload 22 rfl rfl rfl ?_
        refine zr_bipush 24 (x := 6) rfl rfl (by decide) ?_
        refine zr_icmp_gt 41 27 rfl rfl (by decide) (fun c24z => ?_) (fun c24z => ?_)
        · refine zr_iconst 42 (x := (-1)) rfl rfl (by decide) ?_
          refine zr_iret rfl rfl ?_
          refine ⟨ξ, rfl, ?_⟩
          rw [show zmindsF K sh x i p m = _ from if_pos (fun z => absurd z.2.2.2.1 (Int32.not_le.mpr c24z))]
          exact ⟨rfl, h, fun _ _ => rfl⟩
        · refine zr_iload 29 rfl rfl rfl ?_
          refine zr_aload_n 30 rfl rfl rfl trivial ?_
          refine zr_getf 33 rfl rfl rfl rfl rfl ?_
          refine zr_getf 36 rfl rfl rfl rfl rfl ?_
          refine zr_iload_n 37 rfl rfl rfl ?_
          refine zr_isub 38 rfl rfl ?_
          refine zr_icmp_le 43 41 rfl rfl (by decide) (fun c38z => ?_) (fun c38z => ?_)
          · obtain ⟨k, hi, rfl⟩ := zperI (M := 4) rfl (by decide) c4z
            obtain ⟨pp, hp, rfl⟩ := zperI h.hm (by omega) c12z
            obtain ⟨mm, hmm, rfl⟩ := zbetI (k := 6) rfl (by decide) (Int32.not_lt.mp c17z) (Int32.not_lt.mp c24z)
            have hc : (0 ≤ nI k ∧ nI k < 4) ∧ (0 ≤ nI pp ∧ nI pp < nI K.M) ∧ 0 ≤ nI mm ∧ nI mm ≤ 6 ∧ nI mm ≤ nI K.M - nI pp := ⟨c4z, by rw [← h.hm]; exact c12z, Int32.not_lt.mp c17z, Int32.not_lt.mp c24z, by rw [← h.hm]; exact c38z⟩
            have hpm : pp + mm ≤ K.M := by
              have q := hc.2.2.2.2
              rw [znsub (by omega), nI_leI (by omega) (by omega)] at q
              omega
            have hq : zmindsF K sh (nI k) i (nI pp) (nI mm) = (match sh k with
              | none => (K, -11)
              | some s => if ¬ s.1 = 0 then (K, -13) else if i < 0 ∨ nI s.2.1 - nI mm < i then (K, -12) else (zmnd K pp i.toNatClampNeg s.2.2 mm, nI mm)) := by
              unfold zmindsF
              rw [if_neg (Decidable.not_not.mpr hc), nI_clamp (by omega), nI_clamp (by omega), nI_clamp (by omega)] <;> rfl
            rw [hq]
            refine zr_aload_n 44 rfl rfl rfl trivial ?_
            refine zr_getf 47 rfl rfl rfl rfl rfl ?_
            refine zr_iload_n 48 rfl rfl rfl ?_
            rcases zxsh hS hi with ⟨e1, e2⟩ | ⟨a, so, sz, it, e1, e2, hA⟩
            · rw [e2]
              refine zr_aald 49 rfl rfl rfl (by decide) (nI_clamp (by omega)) (vp_in_nI (by omega) (by omega)) (show va_rf _ = .null by rw [e1] <;> rfl) ?_
              refine zr_astore 51 (L2 := [_, _, _, _, _, _, _]) rfl rfl trivial (Nat.le_of_ble_eq_true rfl) (by first | exact trivial | exact rfl) rfl ?_
              refine zr_aload 53 rfl rfl rfl trivial ?_
              refine zr_ifnonnull_n 59 56 rfl rfl (by decide) ?_
              refine zr_bipush 58 (x := (-11)) rfl rfl (by decide) ?_
              refine zr_iret rfl rfl ?_
              exact ⟨ξ, rfl, rfl, h, fun _ _ => rfl⟩
            · rw [e2]
              have hs40 := hA.2.2.2.1
              refine zr_aald 49 rfl rfl rfl (by decide) (nI_clamp (by omega)) (vp_in_nI (by omega) (by omega)) (show va_rf _ = .ref a by rw [e1] <;> rfl) ?_
              refine zr_astore 51 (L2 := [_, _, _, _, _, _, _]) rfl rfl trivial (Nat.le_of_ble_eq_true rfl) (by first | exact trivial | exact rfl) rfl ?_
              refine zr_aload 53 rfl rfl rfl trivial ?_
              refine zr_ifnonnull_r 59 rfl (by decide) ?_
              refine zr_aload 61 rfl rfl rfl trivial ?_
              refine zr_getf 64 rfl rfl rfl ((zc_hi hA.1).trans hA.2.2.2.2.2.1) rfl ?_
              refine zr_if_eq 70 67 rfl rfl (by decide) (fun c64z => ?_) (fun c64z => ?_)
              · refine zr_iload_n 71 rfl rfl rfl ?_
                refine zr_if_lt 87 74 rfl rfl (by decide) (fun c71z => ?_) (fun c71z => ?_)
                · refine zr_bipush 89 (x := (-12)) rfl rfl (by decide) ?_
                  refine zr_iret rfl rfl ?_
                  refine ⟨ξ, rfl, ?_⟩
                  show _ = some (Value.int (if ¬ so = 0 then (K, -13) else if i < 0 ∨ nI sz - nI mm < i then (K, -12) else (zmnd K pp i.toNatClampNeg it mm, nI mm)).2) ∧ zXR ξ 1 (if ¬ so = 0 then (K, -13) else if i < 0 ∨ nI sz - nI mm < i then (K, -12) else (zmnd K pp i.toNatClampNeg it mm, nI mm)).1 ∧ _
                  rw [if_neg (Decidable.not_not.mpr c64z), if_pos (Or.inl c71z)]
                  exact ⟨rfl, h, fun _ _ => rfl⟩
                · refine zr_iload_n 75 rfl rfl rfl ?_
                  refine zr_aload 77 rfl rfl rfl trivial ?_
                  refine zr_getf 80 rfl rfl rfl ((zc_hi hA.1).trans hA.2.2.2.2.2.1) rfl ?_
                  refine zr_alen 81 rfl rfl ((zc_hi (by have := hA.1; omega)).trans hA.2.2.2.2.2.2) (by decide) rfl ?_
                  refine zr_iload 83 rfl rfl rfl ?_
                  refine zr_isub 84 rfl rfl ?_
                  refine zr_icmp_le 90 87 rfl rfl (by decide) (fun c84z => ?_) (fun c84z => ?_)
                  · refine zr_iconst 91 (x := 0) rfl rfl (by decide) ?_
                    refine zr_istore 93 (L2 := [_, _, _, _, _, _, _]) rfl rfl (Nat.le_of_ble_eq_true rfl) (by first | exact trivial | exact rfl) rfl ?_
                    obtain ⟨ii, hii0, rfl⟩ := nI_of c71z
                    have hii : ii + mm ≤ sz := by
                      have q := c84z
                      rw [show Int32.ofNat sz = nI sz from rfl] at q
                      by_cases z : mm ≤ sz
                      · rw [znsub z, nI_leI (by omega) (by omega)] at q
                        omega
                      · have e : nI sz - nI mm = -(nI (mm - sz)) := by
                          obtain ⟨dd, rfl⟩ : ∃ dd, mm = sz + dd := ⟨mm - sz, by omega⟩
                          rw [← nI_add, Nat.add_sub_cancel_left]
                          grind
                        have q2 := Int32.le_iff_toInt_le.mp q
                        rw [e, nI_toInt hii0, Int32.toInt_neg, nI_toInt (by omega)] at q2
                        rw [Int.bmod_eq_of_le (by omega) (by omega)] at q2
                        omega
                    refine Zw_mono (key _ k pp mm ii 0 a sz so it ξ rfl hA hpm hii (by omega) h (fun _ _ => rfl)) (fun r w z => ?_)
                    obtain ⟨ξ2, z1, z2, z3, z4⟩ := z
                    refine ⟨ξ2, z1, ?_⟩
                    show r = some (Value.int (if ¬ so = 0 then (K, -13) else if nI ii < 0 ∨ nI sz - nI mm < nI ii then (K, -12) else (zmnd K pp (nI ii).toNatClampNeg it mm, nI mm)).2) ∧ zXR ξ2 1 (if ¬ so = 0 then (K, -13) else if nI ii < 0 ∨ nI sz - nI mm < nI ii then (K, -12) else (zmnd K pp (nI ii).toNatClampNeg it mm, nI mm)).1 ∧ _
                    rw [if_neg (Decidable.not_not.mpr c64z), if_neg (fun z => z.elim c71z (fun y => absurd c84z (Int32.not_le.mpr y))), nI_clamp (by omega)]
                    exact ⟨z2, z3, z4⟩
                  · refine zr_bipush 89 (x := (-12)) rfl rfl (by decide) ?_
                    refine zr_iret rfl rfl ?_
                    refine ⟨ξ, rfl, ?_⟩
                    show _ = some (Value.int (if ¬ so = 0 then (K, -13) else if i < 0 ∨ nI sz - nI mm < i then (K, -12) else (zmnd K pp i.toNatClampNeg it mm, nI mm)).2) ∧ zXR ξ 1 (if ¬ so = 0 then (K, -13) else if i < 0 ∨ nI sz - nI mm < i then (K, -12) else (zmnd K pp i.toNatClampNeg it mm, nI mm)).1 ∧ _
                    rw [if_neg (Decidable.not_not.mpr c64z), if_pos (Or.inr (show nI sz - nI mm < i from Int32.not_le.mp c84z))]
                    exact ⟨rfl, h, fun _ _ => rfl⟩
              · refine zr_bipush 69 (x := (-13)) rfl rfl (by decide) ?_
                refine zr_iret rfl rfl ?_
                refine ⟨ξ, rfl, ?_⟩
                show _ = some (Value.int (if ¬ so = 0 then (K, -13) else _).2) ∧ zXR ξ 1 (if ¬ so = 0 then (K, -13) else _).1 ∧ _
                rw [if_pos c64z]
                exact ⟨rfl, h, fun _ _ => rfl⟩
          · refine zr_iconst 42 (x := (-1)) rfl rfl (by decide) ?_
            refine zr_iret rfl rfl ?_
            refine ⟨ξ, rfl, ?_⟩
            rw [show zmindsF K sh x i p m = _ from if_pos (fun z => c38z (by rw [h.hm]; exact z.2.2.2.2))]
            exact ⟨rfl, h, fun _ _ => rfl⟩
