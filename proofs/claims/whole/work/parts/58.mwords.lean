def zwN (f : Nat → Nat) : Nat → Nat
  | 0 => 0
  | n + 1 => 27 * zwN f n + f n
theorem zwN_lt {f : Nat → Nat} : ∀ n, (∀ i, i < n → f i ≤ 26) → zwN f n < 27 ^ n
  | 0, _ => by rw [zwN]; decide
  | n + 1, h => by
    have a := zwN_lt n (fun i hi => h i (by omega))
    have b := h n (by omega)
    rw [zwN, Nat.pow_succ]
    omega
theorem zwN_inj {f g : Nat → Nat} : ∀ n m, (∀ i, i < n → 1 ≤ f i ∧ f i ≤ 26) → (∀ i, i < m → 1 ≤ g i ∧ g i ≤ 26) → zwN f n = zwN g m → n = m ∧ ∀ i, i < n → f i = g i
  | 0, 0, _, _, _ => ⟨rfl, fun i hi => absurd hi (Nat.not_lt_zero _)⟩
  | 0, m + 1, _, hg, e => by
    have b := hg m (by omega)
    rw [zwN, zwN] at e
    omega
  | n + 1, 0, hf, _, e => by
    have b := hf n (by omega)
    rw [zwN, zwN] at e
    omega
  | n + 1, m + 1, hf, hg, e => by
    have a := hf n (by omega)
    have b := hg m (by omega)
    rw [zwN, zwN] at e
    obtain ⟨e1, e2⟩ := zwN_inj n m (fun i hi => hf i (by omega)) (fun i hi => hg i (by omega)) (by omega)
    subst e1
    refine ⟨rfl, fun i hi => ?_⟩
    by_cases q : i = n
    · subst q
      omega
    · exact e2 i (by omega)
abbrev zdg (tb : Nat → Int32) (s i : Nat) : Nat := (tb (s + i)).toInt.toNat - 96
theorem zwF_N {tb : Nat → Int32} {s : Nat} : ∀ n, n ≤ 8 → (∀ i, i < n → 97 ≤ (tb (s + i)).toInt ∧ (tb (s + i)).toInt ≤ 122) → zwF tb s n = lN (zwN (zdg tb s) n)
  | 0, _, _ => rfl
  | n + 1, h8, h => by
    have a := h n (by omega)
    have e : tb (s + n) = nI (tb (s + n)).toInt.toNat := Int32.toInt_inj.mp (by rw [nI_toInt (by omega)]; omega)
    have e2 : (tb (s + n)).toInt64 = lN (tb (s + n)).toInt.toNat := (congrArg Int32.toInt64 e).trans (nI_l (by omega))
    rw [zwF, if_pos (by omega), zwF_N n (by omega) (fun i hi => h i (by omega)), e2, show (27 : Int64) = lN 27 from rfl, show (96 : Int64) = lN 96 from rfl, lN_mul, lN_add, lN_sub (by omega), zwN, Nat.add_sub_assoc (by omega)]
abbrev zww (W : Int64) (bs : List Int32) : Prop := W = lN (zwN (fun i => (bs.getD i 0).toInt.toNat - 96) bs.length) ∧ bs.length ≤ 8 ∧ ∀ i, i < bs.length → 97 ≤ (bs.getD i 0).toInt ∧ (bs.getD i 0).toInt ≤ 122
theorem zletT {tb : Nat → Int32} {L : Nat} {t : zTk} (h : zTw tb L t) (h1 : t.2.2 = 1) {i : Nat} (hi : i < t.2.1 - t.1) : 97 ≤ (tb (t.1 + i)).toInt ∧ (tb (t.1 + i)).toInt ≤ 122 := by
  rcases h.2.2 with ⟨q, _⟩ | ⟨_, _, _, _, q⟩
  · rw [h1] at q
    exact absurd q (by decide)
  · have z := q (by rw [h1]; decide) (t.1 + i) (by omega) (by omega)
    rw [h1, zsrt_1] at z
    have a := Int32.le_iff_toInt_le.mp z.1
    have b := Int32.le_iff_toInt_le.mp z.2
    rw [zi97] at a
    rw [zi122] at b
    exact ⟨a, b⟩
theorem z27 {n : Nat} (h : n ≤ 8) : (27 : Nat) ^ n < 2 ^ 63 := Nat.lt_of_le_of_lt (Nat.pow_le_pow_right (by decide) h) (by decide)
theorem zword_lt {W : Int64} {bs : List Int32} (hW : zww W bs) : zwN (fun i => (bs.getD i 0).toInt.toNat - 96) bs.length < 2 ^ 63 :=
  Nat.lt_trans (zwN_lt (f := fun i => (bs.getD i 0).toInt.toNat - 96) bs.length (fun i hi => by have := hW.2.2 i hi; show (bs.getD i 0).toInt.toNat - 96 ≤ 26; omega)) (z27 hW.2.1)
theorem zword_8 {tb : Nat → Int32} {s n : Nat} {W : Int64} {bs : List Int32} (hW : zww W bs) (e : zwF tb s n = W) : n ≤ 8 := by
  rcases Nat.lt_or_ge 8 n with q | q
  · obtain ⟨m, rfl⟩ : ∃ m, n = m + 1 := ⟨n - 1, by omega⟩
    rw [zwF, if_neg (by omega), hW.1] at e
    have z := congrArg Int64.toInt e
    rw [pk_lT (zword_lt hW)] at z
    have z2 : (-1 : Int64).toInt = -1 := by decide
    rw [z2] at z
    generalize zwN (fun i => (bs.getD i 0).toInt.toNat - 96) bs.length = y at z
    omega
  · exact q
theorem zword_mp {tb : Nat → Int32} {L : Nat} {t : zTk} (h : zTw tb L t) (h1 : t.2.2 = 1) {W : Int64} {bs : List Int32} (hW : zww W bs) (e : zwF tb t.1 (t.2.1 - t.1) = W) : zisN tb t bs := by
  have h8 := zword_8 hW e
  rw [zwF_N _ h8 (fun i hi => zletT h h1 hi), hW.1] at e
  have dT2 := Nat.lt_trans (zwN_lt (f := zdg tb t.1) (t.2.1 - t.1) (fun i hi => by have := zletT h h1 hi; show (tb (t.1 + i)).toInt.toNat - 96 ≤ 26; omega)) (z27 h8)
  have e' := (pk_lEQ dT2 (zword_lt hW)).mp e
  obtain ⟨e1, e2⟩ := zwN_inj _ _ (fun i hi => by have := zletT h h1 hi; show 1 ≤ (tb (t.1 + i)).toInt.toNat - 96 ∧ (tb (t.1 + i)).toInt.toNat - 96 ≤ 26; omega) (fun i hi => by have := hW.2.2 i hi; show 1 ≤ (bs.getD i 0).toInt.toNat - 96 ∧ (bs.getD i 0).toInt.toNat - 96 ≤ 26; omega) e'
  refine ⟨h1, e1, fun i hi => Int32.toInt_inj.mp ?_⟩
  have a := zletT h h1 (i := i) (by omega)
  have b := hW.2.2 i hi
  have c : (tb (t.1 + i)).toInt.toNat - 96 = (bs.getD i 0).toInt.toNat - 96 := e2 i (by omega)
  omega
theorem zwN_cg {f g : Nat → Nat} : ∀ n, (∀ i, i < n → f i = g i) → zwN f n = zwN g n
  | 0, _ => rfl
  | n + 1, h => by rw [zwN, zwN, zwN_cg n (fun i hi => h i (by omega)), h n (by omega)]
theorem zword_mpr {tb : Nat → Int32} {L : Nat} {t : zTk} (h : zTw tb L t) (h1 : t.2.2 = 1) {W : Int64} {bs : List Int32} (hW : zww W bs) (e : zisN tb t bs) : zwF tb t.1 (t.2.1 - t.1) = W := by
  obtain ⟨_, e1, e2⟩ := e
  rw [zwF_N _ (by rw [e1]; exact hW.2.1) (fun i hi => zletT h h1 hi), hW.1, e1]
  refine congrArg lN (zwN_cg _ (fun i hi => ?_))
  show (tb (t.1 + i)).toInt.toNat - 96 = _
  rw [e2 i hi]
theorem zword {tb : Nat → Int32} {L : Nat} {t : zTk} (h : zTw tb L t) (h1 : t.2.2 = 1) {W : Int64} {bs : List Int32} (hW : zww W bs) : zwF tb t.1 (t.2.1 - t.1) = W ↔ zisN tb t bs := ⟨zword_mp h h1 hW, zword_mpr h h1 hW⟩
theorem zww_0 : zww 338358942 zS0 := ⟨by decide, by decide, by decide⟩
theorem zww_1 : zww 237470 zS1 := ⟨by decide, by decide, by decide⟩
theorem zww_2 : zww 115575084 zS2 := ⟨by decide, by decide, by decide⟩
theorem zww_3 : zww 330748182 zS3 := ⟨by decide, by decide, by decide⟩
theorem zww_4 : zww 283357330 zS4 := ⟨by decide, by decide, by decide⟩
theorem zww_5 : zww 55213 zS5 := ⟨by decide, by decide, by decide⟩
theorem zww_6 : zww 464141 zS6 := ⟨by decide, by decide, by decide⟩
theorem zww_7 : zww 6897 zS7 := ⟨by decide, by decide, by decide⟩
theorem zww_8 : zww 3488 zS8 := ⟨by decide, by decide, by decide⟩
theorem zww_9 : zww 267347 zS9 := ⟨by decide, by decide, by decide⟩
theorem zww_10 : zww 6277941529 zS10 := ⟨by decide, by decide, by decide⟩
theorem zww_11 : zww 80006 zS11 := ⟨by decide, by decide, by decide⟩
theorem zww_12 : zww 316163 zS12 := ⟨by decide, by decide, by decide⟩
set_option maxRecDepth 20000 in
set_option maxHeartbeats 1000000 in
theorem c_MisWord {S : Nat × (Nat → Int32)} {d n : Nat} {ξ : Nat → Nat → Int32} {ρ : zRho} {wd : Int64} {tb tu : Nat → Int32} {L : Nat} {t : zTk} (h : zMP ξ wd tb tu L t) {W : Int64} {bs : List Int32} (hW : zww W bs) : Zc S (d + 1) jX6_isWord [.ref 42, .long W] (zWof n ξ (zρw ρ wd)) (fun r w => r = some (.int (zb (zisN tb t bs))) ∧ w = zWof n ξ (zρw ρ wd)) := by
  refine Zc_in (q := (6, 0, 3, 1, 3, 0, 0, zk_X6_isWord)) rfl (Nat.le_of_ble_eq_true rfl) (L := [_, _, _]) rfl ?_
  refine zr_aload_n 1 rfl rfl rfl trivial ?_
  refine zr_getf 4 rfl rfl rfl rfl rfl ?_
  refine zr_iconst 5 (x := 1) rfl rfl (by decide) ?_
  refine zr_icmp_ne 21 8 rfl rfl (by decide) (fun c5z => ?_) (fun c5z => ?_)
  · rw [h.2.2.2.2.1] at c5z
    refine zr_iconst 22 (x := 0) rfl rfl (by decide) ?_
    refine zr_zret rfl rfl (Or.inl rfl) ?_
    refine ⟨?_, rfl⟩
    rw [zb_f (fun q => c5z q.1)]
  · rw [h.2.2.2.2.1] at c5z
    refine zr_aload_n 9 rfl rfl rfl trivial ?_
    refine zr_getf 12 rfl rfl rfl rfl rfl ?_
    refine zr_lload_n 13 rfl rfl rfl ?_
    refine zr_lcmp 14 rfl rfl ?_
    refine zr_if_ne 21 17 rfl rfl (by decide) (fun c14z => ?_) (fun c14z => ?_)
    · rw [lg_cmp_eq] at c14z
      have c14 : ¬ wd = W := c14z
      refine zr_iconst 22 (x := 0) rfl rfl (by decide) ?_
      refine zr_zret rfl rfl (Or.inl rfl) ?_
      refine ⟨?_, rfl⟩
      rw [zb_f (fun q => c14 ((h.2.2.2.2.2.2.2.2.1 c5z).trans ((zword h.2.2.2.2.2.2.1 c5z hW).mpr q)))]
    · rw [lg_cmp_eq] at c14z
      have c14 : wd = W := c14z
      refine zr_iconst 18 (x := 1) rfl rfl (by decide) ?_
      refine zr_goto 22 rfl (by decide) ?_
      refine zr_zret rfl rfl (Or.inr rfl) ?_
      refine ⟨?_, rfl⟩
      rw [zb_t ((zword h.2.2.2.2.2.2.1 c5z hW).mp ((h.2.2.2.2.2.2.2.2.1 c5z).symm.trans c14))]
set_option maxRecDepth 20000 in
set_option maxHeartbeats 1000000 in
theorem c_MisMark {S : Nat × (Nat → Int32)} {d n : Nat} {ξ : Nat → Nat → Int32} {ρ : zRho} {wd : Int64} {tb tu : Nat → Int32} {L : Nat} {t : zTk} (h : zMP ξ wd tb tu L t) {c : Int32} (hc : 0 ≤ c.toInt ∧ c.toInt ≤ 127) : Zc S (d + 1) jX6_isMark [.ref 42, .int c] (zWof n ξ (zρw ρ wd)) (fun r w => r = some (.int (zb (zisS tb t c))) ∧ w = zWof n ξ (zρw ρ wd)) := by
  refine Zc_in (q := (6, 0, 3, 1, 2, 0, 0, zk_X6_isMark)) rfl (Nat.le_of_ble_eq_true rfl) (L := [_, _]) rfl ?_
  refine zr_aload_n 1 rfl rfl rfl trivial ?_
  refine zr_getf 4 rfl rfl rfl rfl rfl ?_
  refine zr_iconst 5 (x := 3) rfl rfl (by decide) ?_
  refine zr_icmp_ne 20 8 rfl rfl (by decide) (fun c5z => ?_) (fun c5z => ?_)
  · rw [h.2.2.2.2.1] at c5z
    refine zr_iconst 21 (x := 0) rfl rfl (by decide) ?_
    refine zr_zret rfl rfl (Or.inl rfl) ?_
    refine ⟨?_, rfl⟩
    rw [zb_f (fun q => c5z q.1)]
  · rw [h.2.2.2.2.1] at c5z
    have hlt := (h.2.2.2.2.2.2.1.lt (by rw [c5z]; decide)).2
    have ev := h.2.2.2.2.2.2.2.2.2.2 c5z
    have ee := h.2.2.2.2.2.2.2.1.eq hlt hc
    refine zr_aload_n 9 rfl rfl rfl trivial ?_
    refine zr_getf 12 rfl rfl rfl rfl rfl ?_
    refine zr_iload_n 13 rfl rfl rfl ?_
    refine zr_icmp_ne 20 16 rfl rfl (by decide) (fun c13z => ?_) (fun c13z => ?_)
    · rw [ev, ee] at c13z
      refine zr_iconst 21 (x := 0) rfl rfl (by decide) ?_
      refine zr_zret rfl rfl (Or.inl rfl) ?_
      refine ⟨?_, rfl⟩
      rw [zb_f (fun q => c13z q.2)]
    · rw [ev, ee] at c13z
      refine zr_iconst 17 (x := 1) rfl rfl (by decide) ?_
      refine zr_goto 21 rfl (by decide) ?_
      refine zr_zret rfl rfl (Or.inr rfl) ?_
      refine ⟨?_, rfl⟩
      rw [zb_t ⟨c5z, c13z⟩]
set_option maxRecDepth 20000 in
set_option maxHeartbeats 1000000 in
theorem c_MkindHere {S : Nat × (Nat → Int32)} {d n : Nat} {ξ : Nat → Nat → Int32} {ρ : zRho} {wd : Int64} {tb tu : Nat → Int32} {L : Nat} {t : zTk} (h : zMP ξ wd tb tu L t) : Zc S (d + 2) jX6_kindHere [.ref 42] (zWof n ξ (zρw ρ wd)) (fun r w => r = some (.int (zkindF tb t)) ∧ w = zWof n ξ (zρw ρ wd)) := by
  refine Zc_in (q := (6, 0, 1, 0, 1, 0, 0, zk_X6_kindHere)) rfl (Nat.le_of_ble_eq_true rfl) (L := [_]) rfl ?_
  refine zr_aload_n 1 rfl rfl rfl trivial ?_
  refine zr_ldc2_w 4 rfl rfl rfl ?_
  refine zr_callv 7 (As := [_]) (u2 := (0, 0)) rfl rfl rfl rfl rfl rfl rfl (Nat.le_of_ble_eq_true rfl) (Nat.le_of_ble_eq_true rfl) (Nat.le_of_ble_eq_true rfl) rfl (c_MisWord h zww_0) rfl (fun v2 w2 h4z => ?_)
  obtain ⟨rfl, rfl⟩ := h4z
  refine zr_if_eq 14 10 rfl rfl (by decide) (fun c7z => ?_) (fun c7z => ?_)
  · replace c7z := zb_0.mp c7z
    refine zr_aload_n 15 rfl rfl rfl trivial ?_
    refine zr_ldc2_w 18 rfl rfl rfl ?_
    refine zr_callv 21 (As := [_]) (u2 := (0, 0)) rfl rfl rfl rfl rfl rfl rfl (Nat.le_of_ble_eq_true rfl) (Nat.le_of_ble_eq_true rfl) (Nat.le_of_ble_eq_true rfl) rfl (c_MisWord h zww_1) rfl (fun v2 w2 h18z => ?_)
    obtain ⟨rfl, rfl⟩ := h18z
    refine zr_if_eq 28 24 rfl rfl (by decide) (fun c21z => ?_) (fun c21z => ?_)
    · replace c21z := zb_0.mp c21z
      refine zr_aload_n 29 rfl rfl rfl trivial ?_
      refine zr_ldc2_w 32 rfl rfl rfl ?_
      refine zr_callv 35 (As := [_]) (u2 := (0, 0)) rfl rfl rfl rfl rfl rfl rfl (Nat.le_of_ble_eq_true rfl) (Nat.le_of_ble_eq_true rfl) (Nat.le_of_ble_eq_true rfl) rfl (c_MisWord h zww_2) rfl (fun v2 w2 h32z => ?_)
      obtain ⟨rfl, rfl⟩ := h32z
      refine zr_if_eq 42 38 rfl rfl (by decide) (fun c35z => ?_) (fun c35z => ?_)
      · replace c35z := zb_0.mp c35z
        refine zr_aload_n 43 rfl rfl rfl trivial ?_
        refine zr_ldc2_w 46 rfl rfl rfl ?_
        refine zr_callv 49 (As := [_]) (u2 := (0, 0)) rfl rfl rfl rfl rfl rfl rfl (Nat.le_of_ble_eq_true rfl) (Nat.le_of_ble_eq_true rfl) (Nat.le_of_ble_eq_true rfl) rfl (c_MisWord h zww_3) rfl (fun v2 w2 h46z => ?_)
        obtain ⟨rfl, rfl⟩ := h46z
        refine zr_if_eq 56 52 rfl rfl (by decide) (fun c49z => ?_) (fun c49z => ?_)
        · replace c49z := zb_0.mp c49z
          refine zr_aload_n 57 rfl rfl rfl trivial ?_
          refine zr_ldc2_w 60 rfl rfl rfl ?_
          refine zr_callv 63 (As := [_]) (u2 := (0, 0)) rfl rfl rfl rfl rfl rfl rfl (Nat.le_of_ble_eq_true rfl) (Nat.le_of_ble_eq_true rfl) (Nat.le_of_ble_eq_true rfl) rfl (c_MisWord h zww_4) rfl (fun v2 w2 h60z => ?_)
          obtain ⟨rfl, rfl⟩ := h60z
          refine zr_if_eq 70 66 rfl rfl (by decide) (fun c63z => ?_) (fun c63z => ?_)
          · replace c63z := zb_0.mp c63z
            refine zr_aload_n 71 rfl rfl rfl trivial ?_
            refine zr_ldc2_w 74 rfl rfl rfl ?_
            refine zr_callv 77 (As := [_]) (u2 := (0, 0)) rfl rfl rfl rfl rfl rfl rfl (Nat.le_of_ble_eq_true rfl) (Nat.le_of_ble_eq_true rfl) (Nat.le_of_ble_eq_true rfl) rfl (c_MisWord h zww_5) rfl (fun v2 w2 h74z => ?_)
            obtain ⟨rfl, rfl⟩ := h74z
            refine zr_if_eq 84 80 rfl rfl (by decide) (fun c77z => ?_) (fun c77z => ?_)
            · replace c77z := zb_0.mp c77z
              refine zr_iconst 85 (x := (-1)) rfl rfl (by decide) ?_
              refine zr_iret rfl rfl ?_
              refine ⟨?_, rfl⟩
              unfold zkindF
              rw [if_neg c7z, if_neg c21z, if_neg c35z, if_neg c49z, if_neg c63z, if_neg c77z]
            · replace c77z := zb_n0.mp c77z
              refine zr_iconst 81 (x := 5) rfl rfl (by decide) ?_
              refine zr_goto 85 rfl (by decide) ?_
              refine zr_iret rfl rfl ?_
              refine ⟨?_, rfl⟩
              unfold zkindF
              rw [if_neg c7z, if_neg c21z, if_neg c35z, if_neg c49z, if_neg c63z, if_pos c77z]
          · replace c63z := zb_n0.mp c63z
            refine zr_iconst 67 (x := 4) rfl rfl (by decide) ?_
            refine zr_goto 85 rfl (by decide) ?_
            refine zr_iret rfl rfl ?_
            refine ⟨?_, rfl⟩
            unfold zkindF
            rw [if_neg c7z, if_neg c21z, if_neg c35z, if_neg c49z, if_pos c63z]
        · replace c49z := zb_n0.mp c49z
          refine zr_iconst 53 (x := 3) rfl rfl (by decide) ?_
          refine zr_goto 85 rfl (by decide) ?_
          refine zr_iret rfl rfl ?_
          refine ⟨?_, rfl⟩
          unfold zkindF
          rw [if_neg c7z, if_neg c21z, if_neg c35z, if_pos c49z]
      · replace c35z := zb_n0.mp c35z
        refine zr_iconst 39 (x := 2) rfl rfl (by decide) ?_
        refine zr_goto 85 rfl (by decide) ?_
        refine zr_iret rfl rfl ?_
        refine ⟨?_, rfl⟩
        unfold zkindF
        rw [if_neg c7z, if_neg c21z, if_pos c35z]
    · replace c21z := zb_n0.mp c21z
      refine zr_iconst 25 (x := 1) rfl rfl (by decide) ?_
      refine zr_goto 85 rfl (by decide) ?_
      refine zr_iret rfl rfl ?_
      refine ⟨?_, rfl⟩
      unfold zkindF
      rw [if_neg c7z, if_pos c21z]
  · replace c7z := zb_n0.mp c7z
    refine zr_iconst 11 (x := 0) rfl rfl (by decide) ?_
    refine zr_goto 85 rfl (by decide) ?_
    refine zr_iret rfl rfl ?_
    refine ⟨?_, rfl⟩
    unfold zkindF
    rw [if_pos c7z]
def zlawH (tb : Nat → Int32) (t : zTk) : Int32 := if zisN tb t zS8 then 0 else if zisN tb t zS9 then 1 else if zisN tb t zS10 then 2 else -1
set_option maxRecDepth 20000 in
set_option maxHeartbeats 1000000 in
theorem c_MlawHere {S : Nat × (Nat → Int32)} {d n : Nat} {ξ : Nat → Nat → Int32} {ρ : zRho} {wd : Int64} {tb tu : Nat → Int32} {L : Nat} {t : zTk} (h : zMP ξ wd tb tu L t) : Zc S (d + 2) jX6_lawHere [.ref 42] (zWof n ξ (zρw ρ wd)) (fun r w => r = some (.int (zlawH tb t)) ∧ w = zWof n ξ (zρw ρ wd)) := by
  refine Zc_in (q := (6, 0, 1, 0, 1, 0, 0, zk_X6_lawHere)) rfl (Nat.le_of_ble_eq_true rfl) (L := [_]) rfl ?_
  refine zr_aload_n 1 rfl rfl rfl trivial ?_
  refine zr_ldc2_w 4 rfl rfl rfl ?_
  refine zr_callv 7 (As := [_]) (u2 := (0, 0)) rfl rfl rfl rfl rfl rfl rfl (Nat.le_of_ble_eq_true rfl) (Nat.le_of_ble_eq_true rfl) (Nat.le_of_ble_eq_true rfl) rfl (c_MisWord h zww_8) rfl (fun v2 w2 h4z => ?_)
  obtain ⟨rfl, rfl⟩ := h4z
  refine zr_if_eq 14 10 rfl rfl (by decide) (fun c7z => ?_) (fun c7z => ?_)
  · replace c7z := zb_0.mp c7z
    refine zr_aload_n 15 rfl rfl rfl trivial ?_
    refine zr_ldc2_w 18 rfl rfl rfl ?_
    refine zr_callv 21 (As := [_]) (u2 := (0, 0)) rfl rfl rfl rfl rfl rfl rfl (Nat.le_of_ble_eq_true rfl) (Nat.le_of_ble_eq_true rfl) (Nat.le_of_ble_eq_true rfl) rfl (c_MisWord h zww_9) rfl (fun v2 w2 h18z => ?_)
    obtain ⟨rfl, rfl⟩ := h18z
    refine zr_if_eq 28 24 rfl rfl (by decide) (fun c21z => ?_) (fun c21z => ?_)
    · replace c21z := zb_0.mp c21z
      refine zr_aload_n 29 rfl rfl rfl trivial ?_
      refine zr_ldc2_w 32 rfl rfl rfl ?_
      refine zr_callv 35 (As := [_]) (u2 := (0, 0)) rfl rfl rfl rfl rfl rfl rfl (Nat.le_of_ble_eq_true rfl) (Nat.le_of_ble_eq_true rfl) (Nat.le_of_ble_eq_true rfl) rfl (c_MisWord h zww_10) rfl (fun v2 w2 h32z => ?_)
      obtain ⟨rfl, rfl⟩ := h32z
      refine zr_if_eq 42 38 rfl rfl (by decide) (fun c35z => ?_) (fun c35z => ?_)
      · replace c35z := zb_0.mp c35z
        refine zr_iconst 43 (x := (-1)) rfl rfl (by decide) ?_
        refine zr_iret rfl rfl ?_
        refine ⟨?_, rfl⟩
        unfold zlawH
        rw [if_neg c7z, if_neg c21z, if_neg c35z]
      · replace c35z := zb_n0.mp c35z
        refine zr_iconst 39 (x := 2) rfl rfl (by decide) ?_
        refine zr_goto 43 rfl (by decide) ?_
        refine zr_iret rfl rfl ?_
        refine ⟨?_, rfl⟩
        unfold zlawH
        rw [if_neg c7z, if_neg c21z, if_pos c35z]
    · replace c21z := zb_n0.mp c21z
      refine zr_iconst 25 (x := 1) rfl rfl (by decide) ?_
      refine zr_goto 43 rfl (by decide) ?_
      refine zr_iret rfl rfl ?_
      refine ⟨?_, rfl⟩
      unfold zlawH
      rw [if_neg c7z, if_pos c21z]
  · replace c7z := zb_n0.mp c7z
    refine zr_iconst 11 (x := 0) rfl rfl (by decide) ?_
    refine zr_goto 43 rfl (by decide) ?_
    refine zr_iret rfl rfl ?_
    refine ⟨?_, rfl⟩
    unfold zlawH
    rw [if_pos c7z]
def zMQ (ξ : Nat → Nat → Int32) (wd : Int64) (tb tu : Nat → Int32) (L : Nat) : Nat ⊕ zTk → Prop
  | .inl f => ξ 42 19 = 0 ∧ ξ 42 15 = nI f
  | .inr t => ξ 42 19 = 1 ∧ zMP ξ wd tb tu L t
def zqN (tb : Nat → Int32) (L : Nat) (lo hi : Int32) : Nat ⊕ zTk → Nat ⊕ zTk
  | .inl f => .inl f
  | .inr t => if znok tb t lo hi then .inr (zNx tb L t) else .inl t.1
def zqW (tb : Nat → Int32) (L : Nat) (bs : List Int32) : Nat ⊕ zTk → Nat ⊕ zTk
  | .inl f => .inl f
  | .inr t => if zisN tb t bs then .inr (zNx tb L t) else .inl t.1
def zqE (tb : Nat → Int32) (L : Nat) : Nat ⊕ zTk → Nat ⊕ zTk
  | .inl f => .inl f
  | .inr t => if zisS tb t 59 then .inr (zNx tb L t) else .inl t.1
abbrev zfrQ (ξ ξ2 : Nat → Nat → Int32) : Prop := (∀ b, b ≠ 42 → ξ2 b = ξ b) ∧ ∀ k, k ≠ 14 → k ≠ 15 → k ≠ 16 → k ≠ 18 → k ≠ 19 → ξ2 42 k = ξ 42 k
theorem zfrQ.rf (ξ : Nat → Nat → Int32) : zfrQ ξ ξ := ⟨fun _ _ => rfl, fun _ _ _ _ _ _ => rfl⟩
theorem zfrQ.tr {ξ ξ1 ξ2 : Nat → Nat → Int32} (f : zfrQ ξ ξ1) (g : zfrQ ξ1 ξ2) : zfrQ ξ ξ2 := ⟨fun b hb => (g.1 b hb).trans (f.1 b hb), fun k h1 h2 h3 h4 h5 => (g.2 k h1 h2 h3 h4 h5).trans (f.2 k h1 h2 h3 h4 h5)⟩
theorem zfrP.q {ξ ξ2 : Nat → Nat → Int32} (f : zfrP ξ ξ2) : zfrQ ξ ξ2 := ⟨f.1, fun k h1 h2 h3 h4 _ => f.2 k h1 h2 h3 h4⟩
theorem zfrQ.u19 {ξ ξ1 : Nat → Nat → Int32} (f : zfrQ ξ ξ1) (v : Int32) : zfrQ ξ (zu ξ1 42 19 v) := ⟨fun b hb => by rw [zun hb]; exact f.1 b hb, fun k h1 h2 h3 h4 h5 => by rw [zu_ne (Or.inr h5)]; exact f.2 k h1 h2 h3 h4 h5⟩
theorem zMP.u19 {ξ : Nat → Nat → Int32} {wd : Int64} {tb tu : Nat → Int32} {L : Nat} {t : zTk} (h : zMP ξ wd tb tu L t) (v : Int32) : zMP (zu ξ 42 19 v) wd tb tu L t := h
theorem zMP.adv {ξ ξ2 : Nat → Nat → Int32} {wd2 : Int64} {tb tu : Nat → Int32} {L : Nat} {t2 : zTk} (f : zfrP ξ ξ2) (h : zMP ξ2 wd2 tb tu L t2) (hg : ξ 42 19 = 1) : zMQ ξ2 wd2 tb tu L (.inr t2) := ⟨(f.2 19 (by decide) (by decide) (by decide) (by decide)).trans hg, h⟩
theorem znum_v {tb : Nat → Int32} {t : zTk} {lo hi : Int32} (h2 : t.2.2 = 2) (hlo : 0 ≤ lo) : (lo ≤ (if t.2.1 - t.1 ≤ 2 then znum tb t else -1) ∧ (if t.2.1 - t.1 ≤ 2 then znum tb t else -1) ≤ hi) ↔ znok tb t lo hi := by
  by_cases q : t.2.1 - t.1 ≤ 2
  · rw [if_pos q]
    exact ⟨fun z => ⟨h2, q, z⟩, fun z => z.2.2⟩
  · rw [if_neg q]
    exact ⟨fun z => absurd (Int32.le_trans hlo z.1) (by decide), fun z => absurd z.2.1 q⟩
set_option maxRecDepth 20000 in
set_option maxHeartbeats 1000000 in
theorem c_MwantNumber {S : Nat × (Nat → Int32)} {d n : Nat} {ξ : Nat → Nat → Int32} {ρ : zRho} {wd : Int64} {tb tu : Nat → Int32} {L : Nat} {s : Nat ⊕ zTk} (h : zMQ ξ wd tb tu L s) (lo hi : Int32) (hlo : 0 ≤ lo) : Zc S (d + 4) jX6_wantNumber [.ref 42, .int lo, .int hi] (zWof n ξ (zρw ρ wd)) (fun r w => ∃ v, r = some (.int v) ∧ (∀ t, s = .inr t → znok tb t lo hi → v = znum tb t) ∧ ∃ ξ2 wd2, w = zWof n ξ2 (zρw ρ wd2) ∧ zMQ ξ2 wd2 tb tu L (zqN tb L lo hi s) ∧ zfrQ ξ ξ2) := by
  refine Zc_in (q := (6, 0, 1, 2, 4, 0, 0, zk_X6_wantNumber)) rfl (Nat.le_of_ble_eq_true rfl) (L := [_, _, _, _]) rfl ?_
  rcases s with f | t
  · obtain ⟨h19, h15⟩ := h
    refine zr_aload_n 1 rfl rfl rfl trivial ?_
    refine zr_getf 4 rfl rfl rfl rfl rfl ?_
    refine zr_istore_n 5 (L2 := [_, _, _, _]) rfl rfl (Nat.le_of_ble_eq_true rfl) (by first | exact trivial | exact rfl) rfl ?_
    refine zr_aload_n 6 rfl rfl rfl trivial ?_
    refine zr_aload_n 7 rfl rfl rfl trivial ?_
    refine zr_getf 10 rfl rfl rfl rfl rfl ?_
    refine zr_if_eq 34 13 rfl rfl (by decide) (fun c10z => ?_) (fun c10z => ?_)
    · refine zr_iconst 35 (x := 0) rfl rfl (by decide) ?_
      refine zr_putf 38 rfl rfl rfl rfl (Nat.le_of_ble_eq_true rfl) rfl (by first | exact Or.inl rfl | exact Or.inr rfl | assumption) (fun h => by cases h) (zW_set (k := 19) (v := 0) rfl) ?_
      refine zr_aload_n 39 rfl rfl rfl trivial ?_
      refine zr_getf 42 rfl rfl rfl rfl rfl ?_
      refine zr_if_eq 49 45 rfl rfl (by decide) (fun c42z => ?_) (fun c42z => ?_)
      · refine zr_iload_n 50 rfl rfl rfl ?_
        refine zr_iret rfl rfl ?_
        refine ⟨_, rfl, fun t q => (by cases q), zu ξ 42 19 0, wd, rfl, ⟨zu_same _ _ _ _, h15⟩, (zfrQ.rf ξ).u19 0⟩
      · exact absurd rfl c42z
    · exact absurd h19 c10z
  · obtain ⟨h19, h2⟩ := h
    refine zr_aload_n 1 rfl rfl rfl trivial ?_
    refine zr_getf 4 rfl rfl rfl rfl rfl ?_
    refine zr_istore_n 5 (L2 := [_, _, _, _]) rfl rfl (Nat.le_of_ble_eq_true rfl) (by first | exact trivial | exact rfl) rfl ?_
    refine zr_aload_n 6 rfl rfl rfl trivial ?_
    refine zr_aload_n 7 rfl rfl rfl trivial ?_
    refine zr_getf 10 rfl rfl rfl rfl rfl ?_
    refine zr_if_eq 34 13 rfl rfl (by decide) (fun c10z => ?_) (fun c10z => ?_)
    · exact absurd (h19.symm.trans c10z) (by decide)
    · refine zr_aload_n 14 rfl rfl rfl trivial ?_
      refine zr_getf 17 rfl rfl rfl rfl rfl ?_
      refine zr_iconst 18 (x := 2) rfl rfl (by decide) ?_
      refine zr_icmp_ne 34 21 rfl rfl (by decide) (fun c18z => ?_) (fun c18z => ?_)
      · rw [h2.2.2.2.2.1] at c18z
        refine zr_iconst 35 (x := 0) rfl rfl (by decide) ?_
        refine zr_putf 38 rfl rfl rfl rfl (Nat.le_of_ble_eq_true rfl) rfl (by first | exact Or.inl rfl | exact Or.inr rfl | assumption) (fun h => by cases h) (zW_set (k := 19) (v := 0) rfl) ?_
        refine zr_aload_n 39 rfl rfl rfl trivial ?_
        refine zr_getf 42 rfl rfl rfl rfl rfl ?_
        refine zr_if_eq 49 45 rfl rfl (by decide) (fun c42z => ?_) (fun c42z => ?_)
        · refine zr_iload_n 50 rfl rfl rfl ?_
          refine zr_iret rfl rfl ?_
          refine ⟨_, rfl, fun t2 q1 q2 => ?_, zu ξ 42 19 0, wd, rfl, ?_, (zfrQ.rf ξ).u19 0⟩
          · cases q1
            exact absurd q2 (fun z => c18z z.1)
          · rw [show zqN tb L lo hi (.inr t) = _ from if_neg (fun z => c18z z.1)]
            exact ⟨zu_same _ _ _ _, h2.2.2.1⟩
        · exact absurd rfl c42z
      · rw [h2.2.2.2.2.1] at c18z
        have ev := h2.2.2.2.2.2.2.2.2.2.1 c18z
        refine zr_iload_n 22 rfl rfl rfl ?_
        refine zr_iload_n 23 rfl rfl rfl ?_
        refine zr_iload_n 24 rfl rfl rfl ?_
        refine zr_calls 27 (As := [_, _, _]) (u2 := (0, 0)) rfl rfl rfl rfl rfl rfl rfl (Nat.le_of_ble_eq_true rfl) (Nat.le_of_ble_eq_true rfl) (Nat.le_of_ble_eq_true rfl) (c_Min _ _ _) rfl (fun v2 w2 h24z => ?_)
        obtain ⟨rfl, rfl⟩ := h24z
        refine zr_if_eq 34 30 rfl rfl (by decide) (fun c27z => ?_) (fun c27z => ?_)
        · replace c27z := zb_0.mp c27z
          rw [ev, znum_v c18z hlo] at c27z
          refine zr_iconst 35 (x := 0) rfl rfl (by decide) ?_
          refine zr_putf 38 rfl rfl rfl rfl (Nat.le_of_ble_eq_true rfl) rfl (by first | exact Or.inl rfl | exact Or.inr rfl | assumption) (fun h => by cases h) (zW_set (k := 19) (v := 0) rfl) ?_
          refine zr_aload_n 39 rfl rfl rfl trivial ?_
          refine zr_getf 42 rfl rfl rfl rfl rfl ?_
          refine zr_if_eq 49 45 rfl rfl (by decide) (fun c42z => ?_) (fun c42z => ?_)
          · refine zr_iload_n 50 rfl rfl rfl ?_
            refine zr_iret rfl rfl ?_
            refine ⟨_, rfl, fun t2 q1 q2 => ?_, zu ξ 42 19 0, wd, rfl, ?_, (zfrQ.rf ξ).u19 0⟩
            · cases q1
              exact absurd q2 c27z
            · rw [show zqN tb L lo hi (.inr t) = _ from if_neg c27z]
              exact ⟨zu_same _ _ _ _, h2.2.2.1⟩
          · exact absurd rfl c42z
        · replace c27z := zb_n0.mp c27z
          rw [ev, znum_v c18z hlo] at c27z
          refine zr_iconst 31 (x := 1) rfl rfl (by decide) ?_
          refine zr_goto 35 rfl (by decide) ?_
          refine zr_putf 38 rfl rfl rfl rfl (Nat.le_of_ble_eq_true rfl) rfl (by first | exact Or.inl rfl | exact Or.inr rfl | assumption) (fun h => by cases h) (zW_set (k := 19) (v := 1) rfl) ?_
          refine zr_aload_n 39 rfl rfl rfl trivial ?_
          refine zr_getf 42 rfl rfl rfl rfl rfl ?_
          refine zr_if_eq 49 45 rfl rfl (by decide) (fun c42z => ?_) (fun c42z => ?_)
          · exact absurd (show (1 : Int32) = 0 from c42z) (by decide)
          · refine zr_aload_n 46 rfl rfl rfl trivial ?_
            refine zr_callv 49 (As := []) (u2 := (0, 0)) rfl rfl rfl rfl rfl rfl rfl (Nat.le_of_ble_eq_true rfl) (Nat.le_of_ble_eq_true rfl) (Nat.le_of_ble_eq_true rfl) rfl (c_Madvance (ξ := zu ξ 42 19 1) (ρ := zρw ρ wd) h2.1 h2.2.1 h2.2.2.2.1 h2.2.2.2.2.2.1 h2.2.2.2.2.2.2.1.2.1 h2.2.2.2.2.2.2.2.1) rfl (fun v2 w2 h46z => ?_)
            obtain ⟨rfl, ξ2, wd2, rfl, mp, fp⟩ := h46z
            refine zr_iload_n 50 rfl rfl rfl ?_
            refine zr_iret rfl rfl ?_
            refine ⟨_, rfl, fun t2 q1 q2 => ?_, ξ2, wd2, rfl, ?_, ((zfrQ.rf ξ).u19 1).tr fp.q⟩
            · cases q1
              rw [ev, if_pos q2.2.1]
            · rw [show zqN tb L lo hi (.inr t) = _ from if_pos c27z]
              exact zMP.adv fp mp (zu_same _ _ _ _)
set_option maxRecDepth 20000 in
set_option maxHeartbeats 1000000 in
theorem c_MwantWord {S : Nat × (Nat → Int32)} {d n : Nat} {ξ : Nat → Nat → Int32} {ρ : zRho} {wd : Int64} {tb tu : Nat → Int32} {L : Nat} {s : Nat ⊕ zTk} (h : zMQ ξ wd tb tu L s) {W : Int64} {bs : List Int32} (hW : zww W bs) : Zc S (d + 4) jX6_wantWord [.ref 42, .long W] (zWof n ξ (zρw ρ wd)) (fun r w => r = none ∧ ∃ ξ2 wd2, w = zWof n ξ2 (zρw ρ wd2) ∧ zMQ ξ2 wd2 tb tu L (zqW tb L bs s) ∧ zfrQ ξ ξ2) := by
  refine Zc_in (q := (6, 0, 0, 1, 3, 0, 0, zk_X6_wantWord)) rfl (Nat.le_of_ble_eq_true rfl) (L := [_, _, _]) rfl ?_
  rcases s with f | t
  · obtain ⟨h19, h15⟩ := h
    refine zr_aload_n 1 rfl rfl rfl trivial ?_
    refine zr_aload_n 2 rfl rfl rfl trivial ?_
    refine zr_getf 5 rfl rfl rfl rfl rfl ?_
    refine zr_if_eq 20 8 rfl rfl (by decide) (fun c5z => ?_) (fun c5z => ?_)
    · refine zr_iconst 21 (x := 0) rfl rfl (by decide) ?_
      refine zr_putf 24 rfl rfl rfl rfl (Nat.le_of_ble_eq_true rfl) rfl (by first | exact Or.inl rfl | exact Or.inr rfl | assumption) (fun h => by cases h) (zW_set (k := 19) (v := 0) rfl) ?_
      refine zr_aload_n 25 rfl rfl rfl trivial ?_
      refine zr_getf 28 rfl rfl rfl rfl rfl ?_
      refine zr_if_eq 35 31 rfl rfl (by decide) (fun c28z => ?_) (fun c28z => ?_)
      · refine zr_ret rfl rfl ?_
        exact ⟨rfl, zu ξ 42 19 0, wd, rfl, ⟨zu_same _ _ _ _, h15⟩, (zfrQ.rf ξ).u19 0⟩
      · exact absurd rfl c28z
    · exact absurd h19 c5z
  · obtain ⟨h19, h2⟩ := h
    refine zr_aload_n 1 rfl rfl rfl trivial ?_
    refine zr_aload_n 2 rfl rfl rfl trivial ?_
    refine zr_getf 5 rfl rfl rfl rfl rfl ?_
    refine zr_if_eq 20 8 rfl rfl (by decide) (fun c5z => ?_) (fun c5z => ?_)
    · exact absurd (h19.symm.trans c5z) (by decide)
    · refine zr_aload_n 9 rfl rfl rfl trivial ?_
      refine zr_lload_n 10 rfl rfl rfl ?_
      refine zr_callv 13 (As := [_]) (u2 := (0, 0)) rfl rfl rfl rfl rfl rfl rfl (Nat.le_of_ble_eq_true rfl) (Nat.le_of_ble_eq_true rfl) (Nat.le_of_ble_eq_true rfl) rfl (c_MisWord h2 hW) rfl (fun v2 w2 h10z => ?_)
      obtain ⟨rfl, rfl⟩ := h10z
      refine zr_if_eq 20 16 rfl rfl (by decide) (fun c13z => ?_) (fun c13z => ?_)
      · replace c13z := zb_0.mp c13z
        refine zr_iconst 21 (x := 0) rfl rfl (by decide) ?_
        refine zr_putf 24 rfl rfl rfl rfl (Nat.le_of_ble_eq_true rfl) rfl (by first | exact Or.inl rfl | exact Or.inr rfl | assumption) (fun h => by cases h) (zW_set (k := 19) (v := 0) rfl) ?_
        refine zr_aload_n 25 rfl rfl rfl trivial ?_
        refine zr_getf 28 rfl rfl rfl rfl rfl ?_
        refine zr_if_eq 35 31 rfl rfl (by decide) (fun c28z => ?_) (fun c28z => ?_)
        · refine zr_ret rfl rfl ?_
          refine ⟨rfl, zu ξ 42 19 0, wd, rfl, ?_, (zfrQ.rf ξ).u19 0⟩
          rw [show zqW tb L bs (.inr t) = _ from if_neg c13z]
          exact ⟨zu_same _ _ _ _, h2.2.2.1⟩
        · exact absurd rfl c28z
      · replace c13z := zb_n0.mp c13z
        refine zr_iconst 17 (x := 1) rfl rfl (by decide) ?_
        refine zr_goto 21 rfl (by decide) ?_
        refine zr_putf 24 rfl rfl rfl rfl (Nat.le_of_ble_eq_true rfl) rfl (by first | exact Or.inl rfl | exact Or.inr rfl | assumption) (fun h => by cases h) (zW_set (k := 19) (v := 1) rfl) ?_
        refine zr_aload_n 25 rfl rfl rfl trivial ?_
        refine zr_getf 28 rfl rfl rfl rfl rfl ?_
        refine zr_if_eq 35 31 rfl rfl (by decide) (fun c28z => ?_) (fun c28z => ?_)
        · exact absurd (show (1 : Int32) = 0 from c28z) (by decide)
        · refine zr_aload_n 32 rfl rfl rfl trivial ?_
          refine zr_callv 35 (As := []) (u2 := (0, 0)) rfl rfl rfl rfl rfl rfl rfl (Nat.le_of_ble_eq_true rfl) (Nat.le_of_ble_eq_true rfl) (Nat.le_of_ble_eq_true rfl) rfl (c_Madvance (ξ := zu ξ 42 19 1) (ρ := zρw ρ wd) h2.1 h2.2.1 h2.2.2.2.1 h2.2.2.2.2.2.1 h2.2.2.2.2.2.2.1.2.1 h2.2.2.2.2.2.2.2.1) rfl (fun v2 w2 h32z => ?_)
          obtain ⟨rfl, ξ2, wd2, rfl, mp, fp⟩ := h32z
          refine zr_ret rfl rfl ?_
          refine ⟨rfl, ξ2, wd2, rfl, ?_, ((zfrQ.rf ξ).u19 1).tr fp.q⟩
          rw [show zqW tb L bs (.inr t) = _ from if_pos c13z]
          exact zMP.adv fp mp (zu_same _ _ _ _)
set_option maxRecDepth 20000 in
set_option maxHeartbeats 1000000 in
theorem c_MwantEnd {S : Nat × (Nat → Int32)} {d n : Nat} {ξ : Nat → Nat → Int32} {ρ : zRho} {wd : Int64} {tb tu : Nat → Int32} {L : Nat} {s : Nat ⊕ zTk} (h : zMQ ξ wd tb tu L s) : Zc S (d + 4) jX6_wantEnd [.ref 42] (zWof n ξ (zρw ρ wd)) (fun r w => r = none ∧ ∃ ξ2 wd2, w = zWof n ξ2 (zρw ρ wd2) ∧ zMQ ξ2 wd2 tb tu L (zqE tb L s) ∧ zfrQ ξ ξ2) := by
  refine Zc_in (q := (6, 0, 0, 0, 1, 0, 0, zk_X6_wantEnd)) rfl (Nat.le_of_ble_eq_true rfl) (L := [_]) rfl ?_
  rcases s with f | t
  · obtain ⟨h19, h15⟩ := h
    refine zr_aload_n 1 rfl rfl rfl trivial ?_
    refine zr_aload_n 2 rfl rfl rfl trivial ?_
    refine zr_getf 5 rfl rfl rfl rfl rfl ?_
    refine zr_if_eq 21 8 rfl rfl (by decide) (fun c5z => ?_) (fun c5z => ?_)
    · refine zr_iconst 22 (x := 0) rfl rfl (by decide) ?_
      refine zr_putf 25 rfl rfl rfl rfl (Nat.le_of_ble_eq_true rfl) rfl (by first | exact Or.inl rfl | exact Or.inr rfl | assumption) (fun h => by cases h) (zW_set (k := 19) (v := 0) rfl) ?_
      refine zr_aload_n 26 rfl rfl rfl trivial ?_
      refine zr_getf 29 rfl rfl rfl rfl rfl ?_
      refine zr_if_eq 36 32 rfl rfl (by decide) (fun c29z => ?_) (fun c29z => ?_)
      · refine zr_ret rfl rfl ?_
        exact ⟨rfl, zu ξ 42 19 0, wd, rfl, ⟨zu_same _ _ _ _, h15⟩, (zfrQ.rf ξ).u19 0⟩
      · exact absurd rfl c29z
    · exact absurd h19 c5z
  · obtain ⟨h19, h2⟩ := h
    refine zr_aload_n 1 rfl rfl rfl trivial ?_
    refine zr_aload_n 2 rfl rfl rfl trivial ?_
    refine zr_getf 5 rfl rfl rfl rfl rfl ?_
    refine zr_if_eq 21 8 rfl rfl (by decide) (fun c5z => ?_) (fun c5z => ?_)
    · exact absurd (h19.symm.trans c5z) (by decide)
    · refine zr_aload_n 9 rfl rfl rfl trivial ?_
      refine zr_bipush 11 (x := 59) rfl rfl (by decide) ?_
      refine zr_callv 14 (As := [_]) (u2 := (0, 0)) rfl rfl rfl rfl rfl rfl rfl (Nat.le_of_ble_eq_true rfl) (Nat.le_of_ble_eq_true rfl) (Nat.le_of_ble_eq_true rfl) rfl (c_MisMark h2 (by decide)) rfl (fun v2 w2 h11z => ?_)
      obtain ⟨rfl, rfl⟩ := h11z
      refine zr_if_eq 21 17 rfl rfl (by decide) (fun c14z => ?_) (fun c14z => ?_)
      · replace c14z := zb_0.mp c14z
        refine zr_iconst 22 (x := 0) rfl rfl (by decide) ?_
        refine zr_putf 25 rfl rfl rfl rfl (Nat.le_of_ble_eq_true rfl) rfl (by first | exact Or.inl rfl | exact Or.inr rfl | assumption) (fun h => by cases h) (zW_set (k := 19) (v := 0) rfl) ?_
        refine zr_aload_n 26 rfl rfl rfl trivial ?_
        refine zr_getf 29 rfl rfl rfl rfl rfl ?_
        refine zr_if_eq 36 32 rfl rfl (by decide) (fun c29z => ?_) (fun c29z => ?_)
        · refine zr_ret rfl rfl ?_
          refine ⟨rfl, zu ξ 42 19 0, wd, rfl, ?_, (zfrQ.rf ξ).u19 0⟩
          rw [show zqE tb L (.inr t) = _ from if_neg c14z]
          exact ⟨zu_same _ _ _ _, h2.2.2.1⟩
        · exact absurd rfl c29z
      · replace c14z := zb_n0.mp c14z
        refine zr_iconst 18 (x := 1) rfl rfl (by decide) ?_
        refine zr_goto 22 rfl (by decide) ?_
        refine zr_putf 25 rfl rfl rfl rfl (Nat.le_of_ble_eq_true rfl) rfl (by first | exact Or.inl rfl | exact Or.inr rfl | assumption) (fun h => by cases h) (zW_set (k := 19) (v := 1) rfl) ?_
        refine zr_aload_n 26 rfl rfl rfl trivial ?_
        refine zr_getf 29 rfl rfl rfl rfl rfl ?_
        refine zr_if_eq 36 32 rfl rfl (by decide) (fun c29z => ?_) (fun c29z => ?_)
        · exact absurd (show (1 : Int32) = 0 from c29z) (by decide)
        · refine zr_aload_n 33 rfl rfl rfl trivial ?_
          refine zr_callv 36 (As := []) (u2 := (0, 0)) rfl rfl rfl rfl rfl rfl rfl (Nat.le_of_ble_eq_true rfl) (Nat.le_of_ble_eq_true rfl) (Nat.le_of_ble_eq_true rfl) rfl (c_Madvance (ξ := zu ξ 42 19 1) (ρ := zρw ρ wd) h2.1 h2.2.1 h2.2.2.2.1 h2.2.2.2.2.2.1 h2.2.2.2.2.2.2.1.2.1 h2.2.2.2.2.2.2.2.1) rfl (fun v2 w2 h33z => ?_)
          obtain ⟨rfl, ξ2, wd2, rfl, mp, fp⟩ := h33z
          refine zr_ret rfl rfl ?_
          refine ⟨rfl, ξ2, wd2, rfl, ?_, ((zfrQ.rf ξ).u19 1).tr fp.q⟩
          rw [show zqE tb L (.inr t) = _ from if_pos c14z]
          exact zMP.adv fp mp (zu_same _ _ _ _)
