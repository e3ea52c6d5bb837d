abbrev zisN (tb : Nat → Int32) (t : zTk) (bs : List Int32) : Prop := t.2.2 = 1 ∧ t.2.1 - t.1 = bs.length ∧ ∀ i, i < bs.length → tb (t.1 + i) = bs.getD i 0
abbrev zisS (tb : Nat → Int32) (t : zTk) (c : Int32) : Prop := t.2.2 = 3 ∧ tb t.1 = c
def zval (tb : Nat → Int32) : Nat → Nat → Int32 → Int32
  | 0, _, v => v
  | n + 1, p, v => zval tb n (p + 1) (v * 10 + tb p - 48)
def znum (tb : Nat → Int32) (t : zTk) : Int32 := zval tb (t.2.1 - t.1) t.1 0
abbrev znok (tb : Nat → Int32) (t : zTk) (lo hi : Int32) : Prop := t.2.2 = 2 ∧ t.2.1 - t.1 ≤ 2 ∧ lo ≤ znum tb t ∧ znum tb t ≤ hi
abbrev zNx (tb : Nat → Int32) (L : Nat) (t : zTk) : zTk := ztok tb L t.2.1
theorem zNx_st {tb : Nat → Int32} {L : Nat} {t : zTk} (h : zTw tb L t) : t.2.1 ≤ (zNx tb L t).1 := (ztok_w tb h.2.1).2
theorem zTw.nx {tb : Nat → Int32} {L : Nat} {t : zTk} (h : zTw tb L t) : zTw tb L (zNx tb L t) := (ztok_w tb h.2.1).1
theorem zTw.lt {tb : Nat → Int32} {L : Nat} {t : zTk} (h : zTw tb L t) (hs : ¬ t.2.2 = 0) : t.1 < t.2.1 ∧ t.1 < L := by
  rcases h.2.2 with ⟨a, _⟩ | ⟨a, _, b, _⟩
  · exact absurd a hs
  · exact ⟨b, a⟩
set_option maxRecDepth 20000 in
set_option maxHeartbeats 1000000 in
theorem c_fail {S : Nat × (Nat → Int32)} {d n : Nat} {ξ : Nat → Nat → Int32} {ρ : zRho} {t1 : Nat} (h : ξ 34 3 = nI t1) : Zc S (d + 1) jX3_fail [.ref 34] (zWof n ξ ρ) (fun r w => r = some (.int 0) ∧ w = zWof n (zu ξ 34 7 (nI t1)) ρ) := by
  refine Zc_in (q := (3, 0, 3, 0, 1, 0, 0, zk_X3_fail)) rfl (Nat.le_of_ble_eq_true rfl) (L := [_]) rfl ?_
  refine zr_aload_n 1 rfl rfl rfl trivial ?_
  refine zr_aload_n 2 rfl rfl rfl trivial ?_
  refine zr_getf 5 rfl rfl rfl rfl rfl ?_
  rw [h]
  refine zr_putf 8 rfl rfl rfl rfl (Nat.le_of_ble_eq_true rfl) rfl trivial (fun h => by cases h) (zW_set (k := 7) rfl) ?_
  refine zr_iconst 9 (x := 0) rfl rfl (by decide) ?_
  refine zr_zret rfl rfl (Or.inl rfl) ?_
  exact ⟨rfl, rfl⟩
set_option maxRecDepth 20000 in
set_option maxHeartbeats 1000000 in
theorem c_isName {S : Nat × (Nat → Int32)} {d n : Nat} {ξ : Nat → Nat → Int32} {ρ : zRho} {tb : Nat → Int32} {L : Nat} {t : zTk} (h : zXP ξ tb L t) {q : Nat} {bs : List Int32} (hs : zat zstrs q = some bs) : Zc S (d + 5) jX3_isName [.ref 34, .retAddr (10 + q)] (zWof n ξ ρ) (fun r w => r = some (.int (zb (zisN tb t bs))) ∧ w = zWof n ξ ρ) := by
  have hL := h.2.2.2.2.2.1
  have ha := h.2.2.2.2.2.2.1
  have hb := h.2.2.2.2.2.2.2.1
  refine Zc_in (q := (3, 0, 3, 1, 3, 0, 0, zk_X3_isName)) rfl (Nat.le_of_ble_eq_true rfl) (L := [_, _, _]) rfl ?_
  have hl := zstr_len bs (zstr_lt hs).2
  have key : ∀ (k : Nat) (i : Nat), bs.length - i = k → i ≤ bs.length → t.2.2 = 1 → t.2.1 - t.1 = bs.length → (∀ j, j < i → tb (t.1 + j) = bs.getD j 0) →  Zw S (Zc S (d + 4)) 3 false 3 zk_X3_isName (fun r w => r = some (.int (zb (zisN tb t bs))) ∧ w = zWof n ξ ρ) (28, [some (.ref 34), some (.retAddr (10 + q)), some (.int (nI i))], [], (0, 0), zWof n ξ ρ) := by
    intro k
    induction k using Nat.strongRecOn with
    | ind k ih =>
      intro i hk hi s1 s2 s3
      refine zr_iload_n 29 rfl rfl rfl ?_
      refine zr_aload_n 30 rfl rfl rfl trivial ?_
      refine zr_callt 33 (As := []) (u2 := (0, 0)) rfl rfl rfl rfl rfl rfl rfl (Nat.le_of_ble_eq_true rfl) (Nat.le_of_ble_eq_true rfl) (Nat.le_of_ble_eq_true rfl) (zstr_lt hs).1 rfl (c_length hs) rfl (fun v2 w2 h30z => ?_)
      obtain ⟨rfl, rfl⟩ := h30z
      refine zr_icmp_ge 63 36 rfl rfl (by decide) (fun c33z => ?_) (fun c33z => ?_)
      · rw [nI_leI (by omega) (by omega)] at c33z
        refine zr_iconst 64 (x := 1) rfl rfl (by decide) ?_
        refine zr_zret rfl rfl (Or.inr rfl) ?_
        exact ⟨by rw [zb_t ⟨s1, s2, fun j hj => s3 j (by omega)⟩], rfl⟩
      · rw [nI_leI (by omega) (by omega)] at c33z
        refine zr_aload_n 37 rfl rfl rfl trivial ?_
        refine zr_getf 40 rfl rfl rfl rfl rfl ?_
        refine zr_aload_n 41 rfl rfl rfl trivial ?_
        refine zr_getf 44 rfl rfl rfl rfl rfl ?_
        refine zr_iload_n 45 rfl rfl rfl ?_
        refine zr_iadd 46 rfl rfl ?_
        rw [h.2.2.1, nI_add]
        refine zr_bald 47 rfl rfl rfl (nI_clamp (by omega)) (vp_in_nI (by omega) (by omega)) ?_
        refine zr_aload_n 48 rfl rfl rfl trivial ?_
        refine zr_iload_n 49 rfl rfl rfl ?_
        refine zr_callt 52 (As := [_]) (u2 := (0, 0)) rfl rfl rfl rfl rfl rfl rfl (Nat.le_of_ble_eq_true rfl) (Nat.le_of_ble_eq_true rfl) (Nat.le_of_ble_eq_true rfl) (zstr_lt hs).1 rfl (c_charAt hs (by omega)) rfl (fun v2 w2 h49z => ?_)
        obtain ⟨rfl, rfl⟩ := h49z
        refine zr_icmp_eq 57 55 rfl rfl (by decide) (fun c52z => ?_) (fun c52z => ?_)
        · rw [h.2.1] at c52z
          refine zr_iinc 60 (c0 := 1) (L2 := [_, _, _]) rfl rfl rfl (by first | exact trivial | exact rfl) (by decide) rfl ?_
          refine zr_goto 28 rfl (by decide) ?_
          rw [nI_1]
          refine ih _ (by omega) (i + 1) rfl (by omega) s1 s2 (fun j hj => ?_)
          rcases Nat.lt_succ_iff_lt_or_eq.mp hj with z | rfl
          · exact s3 j z
          · exact c52z
        · rw [h.2.1] at c52z
          refine zr_iconst 56 (x := 0) rfl rfl (by decide) ?_
          refine zr_zret rfl rfl (Or.inl rfl) ?_
          exact ⟨by rw [zb_f (fun z => c52z (z.2.2 i (by omega)))], rfl⟩
  refine zr_aload_n 1 rfl rfl rfl trivial ?_
  refine zr_getf 4 rfl rfl rfl rfl rfl ?_
  refine zr_iconst 5 (x := 1) rfl rfl (by decide) ?_
  refine zr_icmp_ne 24 8 rfl rfl (by decide) (fun c5z => ?_) (fun c5z => ?_)
  · rw [h.2.2.2.2.1] at c5z
    refine zr_iconst 25 (x := 0) rfl rfl (by decide) ?_
    refine zr_zret rfl rfl (Or.inl rfl) ?_
    exact ⟨by rw [zb_f (fun z => c5z z.1)], rfl⟩
  · rw [h.2.2.2.2.1] at c5z
    refine zr_aload_n 9 rfl rfl rfl trivial ?_
    refine zr_getf 12 rfl rfl rfl rfl rfl ?_
    refine zr_aload_n 13 rfl rfl rfl trivial ?_
    refine zr_getf 16 rfl rfl rfl rfl rfl ?_
    refine zr_isub 17 rfl rfl ?_
    rw [h.2.2.1, h.2.2.2.1, znsub ha]
    refine zr_aload_n 18 rfl rfl rfl trivial ?_
    refine zr_callt 21 (As := []) (u2 := (0, 0)) rfl rfl rfl rfl rfl rfl rfl (Nat.le_of_ble_eq_true rfl) (Nat.le_of_ble_eq_true rfl) (Nat.le_of_ble_eq_true rfl) (zstr_lt hs).1 rfl (c_length hs) rfl (fun v2 w2 h18z => ?_)
    obtain ⟨rfl, rfl⟩ := h18z
    refine zr_icmp_eq 26 24 rfl rfl (by decide) (fun c21z => ?_) (fun c21z => ?_)
    · rw [nI_eq (by omega) (by omega)] at c21z
      refine zr_iconst 27 (x := 0) rfl rfl (by decide) ?_
      refine zr_istore_n 28 (L2 := [_, _, _]) rfl rfl (Nat.le_of_ble_eq_true rfl) (by first | exact trivial | exact rfl) rfl ?_
      exact key _ 0 rfl (by omega) c5z c21z (fun j hj => by omega)
    · rw [nI_eq (by omega) (by omega)] at c21z
      refine zr_iconst 25 (x := 0) rfl rfl (by decide) ?_
      refine zr_zret rfl rfl (Or.inl rfl) ?_
      exact ⟨by rw [zb_f (fun z => c21z z.2.1)], rfl⟩
set_option maxRecDepth 20000 in
set_option maxHeartbeats 1000000 in
theorem c_isSign {S : Nat × (Nat → Int32)} {d n : Nat} {ξ : Nat → Nat → Int32} {ρ : zRho} {tb : Nat → Int32} {L : Nat} {t : zTk} (h : zXP ξ tb L t) (c : Int32) : Zc S (d + 1) jX3_isSign [.ref 34, .int c] (zWof n ξ ρ) (fun r w => r = some (.int (zb (zisS tb t c))) ∧ w = zWof n ξ ρ) := by
  have hL := h.2.2.2.2.2.1
  have ha := h.2.2.2.2.2.2.1
  have hb := h.2.2.2.2.2.2.2.1
  refine Zc_in (q := (3, 0, 3, 1, 2, 0, 0, zk_X3_isSign)) rfl (Nat.le_of_ble_eq_true rfl) (L := [_, _]) rfl ?_
  refine zr_aload_n 1 rfl rfl rfl trivial ?_
  refine zr_getf 4 rfl rfl rfl rfl rfl ?_
  refine zr_iconst 5 (x := 3) rfl rfl (by decide) ?_
  refine zr_icmp_ne 25 8 rfl rfl (by decide) (fun c5z => ?_) (fun c5z => ?_)
  · rw [h.2.2.2.2.1] at c5z
    refine zr_iconst 26 (x := 0) rfl rfl (by decide) ?_
    refine zr_zret rfl rfl (Or.inl rfl) ?_
    exact ⟨by rw [zb_f (fun z => c5z z.1)], rfl⟩
  · rw [h.2.2.2.2.1] at c5z
    have hlt := (zTw.lt h.2.2.2.2.2.2 (by rw [c5z]; decide)).2
    refine zr_aload_n 9 rfl rfl rfl trivial ?_
    refine zr_getf 12 rfl rfl rfl rfl rfl ?_
    refine zr_aload_n 13 rfl rfl rfl trivial ?_
    refine zr_getf 16 rfl rfl rfl rfl rfl ?_
    rw [h.2.2.1]
    refine zr_bald 17 rfl rfl rfl (nI_clamp (by omega)) (vp_in_nI (by omega) (by omega)) ?_
    refine zr_iload_n 18 rfl rfl rfl ?_
    refine zr_icmp_ne 25 21 rfl rfl (by decide) (fun c18z => ?_) (fun c18z => ?_)
    · rw [h.2.1] at c18z
      refine zr_iconst 26 (x := 0) rfl rfl (by decide) ?_
      refine zr_zret rfl rfl (Or.inl rfl) ?_
      exact ⟨by rw [zb_f (fun z => c18z z.2)], rfl⟩
    · rw [h.2.1] at c18z
      refine zr_iconst 22 (x := 1) rfl rfl (by decide) ?_
      refine zr_goto 26 rfl (by decide) ?_
      refine zr_zret rfl rfl (Or.inr rfl) ?_
      exact ⟨by rw [zb_t ⟨c5z, c18z⟩], rfl⟩
set_option maxRecDepth 20000 in
set_option maxHeartbeats 1000000 in
theorem c_takeName {S : Nat × (Nat → Int32)} {d n : Nat} {ξ : Nat → Nat → Int32} {ρ : zRho} {tb : Nat → Int32} {L : Nat} {t : zTk} (h : zXP ξ tb L t) {q : Nat} {bs : List Int32} (hs : zat zstrs q = some bs) : Zc S (d + 6) jX3_takeName [.ref 34, .retAddr (10 + q)] (zWof n ξ ρ) (fun r w => ∃ ξ2, w = zWof n ξ2 ρ ∧ r = some (.int (zb (zisN tb t bs))) ∧ (zisN tb t bs → zXP ξ2 tb L (zNx tb L t) ∧ ξ2 34 7 = ξ 34 7) ∧ (¬ (zisN tb t bs) → ξ2 34 7 = nI t.1 ∧ ξ2 34 1 = nI L) ∧ ∀ b, b ≠ 34 → ξ2 b = ξ b) := by
  refine Zc_in (q := (3, 0, 3, 1, 2, 0, 0, zk_X3_takeName)) rfl (Nat.le_of_ble_eq_true rfl) (L := [_, _]) rfl ?_
  refine zr_aload_n 1 rfl rfl rfl trivial ?_
  refine zr_aload_n 2 rfl rfl rfl trivial ?_
  refine zr_callv 5 (As := [_]) (u2 := (0, 0)) rfl rfl rfl rfl rfl rfl rfl (Nat.le_of_ble_eq_true rfl) (Nat.le_of_ble_eq_true rfl) (Nat.le_of_ble_eq_true rfl) rfl (c_isName h hs) rfl (fun v2 w2 h2z => ?_)
  obtain ⟨rfl, rfl⟩ := h2z
  refine zr_if_ne 13 8 rfl rfl (by decide) (fun c5z => ?_) (fun c5z => ?_)
  · replace c5z := zb_n0.mp c5z
    refine zr_aload_n 14 rfl rfl rfl trivial ?_
    refine zr_callv 17 (As := []) (u2 := (0, 0)) rfl rfl rfl rfl rfl rfl rfl (Nat.le_of_ble_eq_true rfl) (Nat.le_of_ble_eq_true rfl) (Nat.le_of_ble_eq_true rfl) rfl (c_step h.1 h.2.1 h.2.2.2.1 h.2.2.2.2.2.1 h.2.2.2.2.2.2.2.1) rfl (fun v2 w2 h14z => ?_)
    obtain ⟨rfl, ξ14z, rfl, x14z, n14z, t14z, f14z⟩ := h14z
    refine zr_iconst 18 (x := 1) rfl rfl (by decide) ?_
    refine zr_zret rfl rfl (Or.inr rfl) ?_
    have hok := c5z
    exact ⟨ξ14z, rfl, by rw [zb_t hok], fun _ => ⟨x14z, t14z⟩, fun z => absurd hok z, f14z⟩
  · replace c5z := zb_0.mp c5z
    refine zr_aload_n 9 rfl rfl rfl trivial ?_
    refine zr_callv 12 (As := []) (u2 := (0, 0)) rfl rfl rfl rfl rfl rfl rfl (Nat.le_of_ble_eq_true rfl) (Nat.le_of_ble_eq_true rfl) (Nat.le_of_ble_eq_true rfl) rfl (c_fail h.2.2.1) rfl (fun v2 w2 h9z => ?_)
    obtain ⟨rfl, rfl⟩ := h9z
    refine zr_zret rfl rfl (Or.inl rfl) ?_
    have hno := c5z
    refine ⟨_, rfl, by rw [zb_f hno], fun z => absurd z hno, fun _ => ⟨zu_same _ _ _ _, ?_⟩, fun b hb => zun hb⟩
    rw [zu_ne (Or.inr (by decide))]
    exact h.1
set_option maxRecDepth 20000 in
set_option maxHeartbeats 1000000 in
theorem c_takeSign {S : Nat × (Nat → Int32)} {d n : Nat} {ξ : Nat → Nat → Int32} {ρ : zRho} {tb : Nat → Int32} {L : Nat} {t : zTk} (h : zXP ξ tb L t) (c : Int32) : Zc S (d + 3) jX3_takeSign [.ref 34, .int c] (zWof n ξ ρ) (fun r w => ∃ ξ2, w = zWof n ξ2 ρ ∧ r = some (.int (zb (zisS tb t c))) ∧ (zisS tb t c → zXP ξ2 tb L (zNx tb L t) ∧ ξ2 34 7 = ξ 34 7) ∧ (¬ (zisS tb t c) → ξ2 34 7 = nI t.1 ∧ ξ2 34 1 = nI L) ∧ ∀ b, b ≠ 34 → ξ2 b = ξ b) := by
  refine Zc_in (q := (3, 0, 3, 1, 2, 0, 0, zk_X3_takeSign)) rfl (Nat.le_of_ble_eq_true rfl) (L := [_, _]) rfl ?_
  refine zr_aload_n 1 rfl rfl rfl trivial ?_
  refine zr_iload_n 2 rfl rfl rfl ?_
  refine zr_callv 5 (As := [_]) (u2 := (0, 0)) rfl rfl rfl rfl rfl rfl rfl (Nat.le_of_ble_eq_true rfl) (Nat.le_of_ble_eq_true rfl) (Nat.le_of_ble_eq_true rfl) rfl (c_isSign h _) rfl (fun v2 w2 h2z => ?_)
  obtain ⟨rfl, rfl⟩ := h2z
  refine zr_if_ne 13 8 rfl rfl (by decide) (fun c5z => ?_) (fun c5z => ?_)
  · replace c5z := zb_n0.mp c5z
    refine zr_aload_n 14 rfl rfl rfl trivial ?_
    refine zr_callv 17 (As := []) (u2 := (0, 0)) rfl rfl rfl rfl rfl rfl rfl (Nat.le_of_ble_eq_true rfl) (Nat.le_of_ble_eq_true rfl) (Nat.le_of_ble_eq_true rfl) rfl (c_step h.1 h.2.1 h.2.2.2.1 h.2.2.2.2.2.1 h.2.2.2.2.2.2.2.1) rfl (fun v2 w2 h14z => ?_)
    obtain ⟨rfl, ξ14z, rfl, x14z, n14z, t14z, f14z⟩ := h14z
    refine zr_iconst 18 (x := 1) rfl rfl (by decide) ?_
    refine zr_zret rfl rfl (Or.inr rfl) ?_
    have hok := c5z
    exact ⟨ξ14z, rfl, by rw [zb_t hok], fun _ => ⟨x14z, t14z⟩, fun z => absurd hok z, f14z⟩
  · replace c5z := zb_0.mp c5z
    refine zr_aload_n 9 rfl rfl rfl trivial ?_
    refine zr_callv 12 (As := []) (u2 := (0, 0)) rfl rfl rfl rfl rfl rfl rfl (Nat.le_of_ble_eq_true rfl) (Nat.le_of_ble_eq_true rfl) (Nat.le_of_ble_eq_true rfl) rfl (c_fail h.2.2.1) rfl (fun v2 w2 h9z => ?_)
    obtain ⟨rfl, rfl⟩ := h9z
    refine zr_zret rfl rfl (Or.inl rfl) ?_
    have hno := c5z
    refine ⟨_, rfl, by rw [zb_f hno], fun z => absurd z hno, fun _ => ⟨zu_same _ _ _ _, ?_⟩, fun b hb => zun hb⟩
    rw [zu_ne (Or.inr (by decide))]
    exact h.1
set_option maxRecDepth 20000 in
set_option maxHeartbeats 1000000 in
theorem c_takeNumber {S : Nat × (Nat → Int32)} {d n : Nat} {ξ : Nat → Nat → Int32} {ρ : zRho} {tb : Nat → Int32} {L : Nat} {t : zTk} (h : zXP ξ tb L t) (lo hi : Int32) : Zc S (d + 3) jX3_takeNumber [.ref 34, .int lo, .int hi] (zWof n ξ ρ) (fun r w => ∃ ξ2, w = zWof n ξ2 ρ ∧ r = some (.int (zb (znok tb t lo hi))) ∧ (znok tb t lo hi → zXP ξ2 tb L (zNx tb L t) ∧ ξ2 34 6 = znum tb t ∧ ξ2 34 7 = ξ 34 7) ∧ (¬ (znok tb t lo hi) → ξ2 34 7 = nI t.1 ∧ ξ2 34 1 = nI L) ∧ ∀ b, b ≠ 34 → ξ2 b = ξ b) := by
  have hL := h.2.2.2.2.2.1
  have ha := h.2.2.2.2.2.2.1
  have hb := h.2.2.2.2.2.2.2.1
  refine Zc_in (q := (3, 0, 3, 2, 5, 0, 0, zk_X3_takeNumber)) rfl (Nat.le_of_ble_eq_true rfl) (L := [_, _, _, _, _]) rfl ?_
  have key : ∀ (k : Nat) (p : Nat) (v : Int32), t.2.1 - p = k → t.1 ≤ p → p ≤ t.2.1 → t.2.2 = 2 → t.2.1 - t.1 ≤ 2 → znum tb t = zval tb (t.2.1 - p) p v →  Zw S (Zc S (d + 2)) 3 false 3 zk_X3_takeNumber (fun r w => ∃ ξ2, w = zWof n ξ2 ρ ∧ r = some (.int (zb (znok tb t lo hi))) ∧ (znok tb t lo hi → zXP ξ2 tb L (zNx tb L t) ∧ ξ2 34 6 = znum tb t ∧ ξ2 34 7 = ξ 34 7) ∧ (¬ (znok tb t lo hi) → ξ2 34 7 = nI t.1 ∧ ξ2 34 1 = nI L) ∧ ∀ b, b ≠ 34 → ξ2 b = ξ b) (34, [some (.ref 34), some (.int lo), some (.int hi), some (.int v), some (.int (nI p))], [], (0, 0), zWof n ξ ρ) := by
    intro k
    induction k using Nat.strongRecOn with
    | ind k ih =>
      intro p v hk hp hp2 s1 s2 s3
      refine zr_iload 36 rfl rfl rfl ?_
      refine zr_aload_n 37 rfl rfl rfl trivial ?_
      refine zr_getf 40 rfl rfl rfl rfl rfl ?_
      refine zr_icmp_ge 65 43 rfl rfl (by decide) (fun c40z => ?_) (fun c40z => ?_)
      · rw [h.2.2.2.1, nI_leI (by omega) (by omega)] at c40z
        have ev : v = znum tb t := by
          rw [s3, show t.2.1 - p = 0 by omega]
          rfl
        refine zr_iload_n 66 rfl rfl rfl ?_
        refine zr_iload_n 67 rfl rfl rfl ?_
        refine zr_icmp_lt 75 70 rfl rfl (by decide) (fun c67z => ?_) (fun c67z => ?_)
        · refine zr_aload_n 76 rfl rfl rfl trivial ?_
          refine zr_callv 79 (As := []) (u2 := (0, 0)) rfl rfl rfl rfl rfl rfl rfl (Nat.le_of_ble_eq_true rfl) (Nat.le_of_ble_eq_true rfl) (Nat.le_of_ble_eq_true rfl) rfl (c_fail h.2.2.1) rfl (fun v2 w2 h76z => ?_)
          obtain ⟨rfl, rfl⟩ := h76z
          refine zr_zret rfl rfl (Or.inl rfl) ?_
          have hno : ¬ znok tb t lo hi := fun z => absurd (ev ▸ z.2.2.1) (Int32.not_le.mpr c67z)
          refine ⟨_, rfl, by rw [zb_f hno], fun z => absurd z hno, fun _ => ⟨zu_same _ _ _ _, ?_⟩, fun b hb => zun hb⟩
          rw [zu_ne (Or.inr (by decide))]
          exact h.1
        · refine zr_iload_n 71 rfl rfl rfl ?_
          refine zr_iload_n 72 rfl rfl rfl ?_
          refine zr_icmp_le 80 75 rfl rfl (by decide) (fun c72z => ?_) (fun c72z => ?_)
          · refine zr_aload_n 81 rfl rfl rfl trivial ?_
            refine zr_iload_n 82 rfl rfl rfl ?_
            refine zr_putf 85 rfl rfl rfl rfl (Nat.le_of_ble_eq_true rfl) rfl trivial (fun h => by cases h) (zW_set (k := 6) rfl) ?_
            refine zr_aload_n 86 rfl rfl rfl trivial ?_
            refine zr_callv 89 (As := []) (u2 := (0, 0)) rfl rfl rfl rfl rfl rfl rfl (Nat.le_of_ble_eq_true rfl) (Nat.le_of_ble_eq_true rfl) (Nat.le_of_ble_eq_true rfl) rfl (c_step (L := L) (tb := tb) (e := t.2.1) (by rw [zu_ne (Or.inr (by decide))]; exact h.1) (by rw [zun (by decide)]; exact h.2.1) (by rw [zu_ne (Or.inr (by decide))]; exact h.2.2.2.1) hL hb) rfl (fun v2 w2 h86z => ?_)
            obtain ⟨rfl, ξ86z, rfl, x86z, n86z, t86z, f86z⟩ := h86z
            refine zr_iconst 90 (x := 1) rfl rfl (by decide) ?_
            refine zr_zret rfl rfl (Or.inr rfl) ?_
            have hok : znok tb t lo hi := ⟨s1, s2, by rw [← ev]; exact Int32.not_lt.mp c67z, by rw [← ev]; exact c72z⟩
            exact ⟨ξ86z, rfl, by rw [zb_t hok], fun _ => ⟨x86z, by rw [n86z, zu_same]; exact ev, by rw [t86z, zu_ne (Or.inr (by decide))]⟩, fun z => absurd hok z, fun b hb => by rw [f86z b hb, zun hb]⟩
          · refine zr_aload_n 76 rfl rfl rfl trivial ?_
            refine zr_callv 79 (As := []) (u2 := (0, 0)) rfl rfl rfl rfl rfl rfl rfl (Nat.le_of_ble_eq_true rfl) (Nat.le_of_ble_eq_true rfl) (Nat.le_of_ble_eq_true rfl) rfl (c_fail h.2.2.1) rfl (fun v2 w2 h76z => ?_)
            obtain ⟨rfl, rfl⟩ := h76z
            refine zr_zret rfl rfl (Or.inl rfl) ?_
            have hno : ¬ znok tb t lo hi := fun z => c72z (ev ▸ z.2.2.2)
            refine ⟨_, rfl, by rw [zb_f hno], fun z => absurd z hno, fun _ => ⟨zu_same _ _ _ _, ?_⟩, fun b hb => zun hb⟩
            rw [zu_ne (Or.inr (by decide))]
            exact h.1
      · rw [h.2.2.2.1, nI_leI (by omega) (by omega)] at c40z
        refine zr_iload_n 44 rfl rfl rfl ?_
        refine zr_bipush 46 (x := 10) rfl rfl (by decide) ?_
        refine zr_imul 47 rfl rfl ?_
        refine zr_aload_n 48 rfl rfl rfl trivial ?_
        refine zr_getf 51 rfl rfl rfl rfl rfl ?_
        refine zr_iload 53 rfl rfl rfl ?_
        refine zr_bald 54 rfl rfl rfl (nI_clamp (by omega)) (vp_in_nI (by omega) (by omega)) ?_
        rw [h.2.1]
        refine zr_iadd 55 rfl rfl ?_
        refine zr_bipush 57 (x := 48) rfl rfl (by decide) ?_
        refine zr_isub 58 rfl rfl ?_
        refine zr_istore_n 59 (L2 := [_, _, _, _, _]) rfl rfl (Nat.le_of_ble_eq_true rfl) (by first | exact trivial | exact rfl) rfl ?_
        refine zr_iinc 62 (c0 := 1) (L2 := [_, _, _, _, _]) rfl rfl rfl (by first | exact trivial | exact rfl) (by decide) rfl ?_
        refine zr_goto 34 rfl (by decide) ?_
        rw [nI_1]
        exact ih _ (by omega) (p + 1) _ rfl (by omega) (by omega) s1 s2 (by rw [s3, show t.2.1 - p = t.2.1 - (p + 1) + 1 by omega]; rfl)
  refine zr_aload_n 1 rfl rfl rfl trivial ?_
  refine zr_getf 4 rfl rfl rfl rfl rfl ?_
  refine zr_iconst 5 (x := 2) rfl rfl (by decide) ?_
  refine zr_icmp_ne 21 8 rfl rfl (by decide) (fun c5z => ?_) (fun c5z => ?_)
  · rw [h.2.2.2.2.1] at c5z
    refine zr_aload_n 22 rfl rfl rfl trivial ?_
    refine zr_callv 25 (As := []) (u2 := (0, 0)) rfl rfl rfl rfl rfl rfl rfl (Nat.le_of_ble_eq_true rfl) (Nat.le_of_ble_eq_true rfl) (Nat.le_of_ble_eq_true rfl) rfl (c_fail h.2.2.1) rfl (fun v2 w2 h22z => ?_)
    obtain ⟨rfl, rfl⟩ := h22z
    refine zr_zret rfl rfl (Or.inl rfl) ?_
    have hno : ¬ znok tb t lo hi := fun z => c5z z.1
    refine ⟨_, rfl, by rw [zb_f hno], fun z => absurd z hno, fun _ => ⟨zu_same _ _ _ _, ?_⟩, fun b hb => zun hb⟩
    rw [zu_ne (Or.inr (by decide))]
    exact h.1
  · rw [h.2.2.2.2.1] at c5z
    refine zr_aload_n 9 rfl rfl rfl trivial ?_
    refine zr_getf 12 rfl rfl rfl rfl rfl ?_
    refine zr_aload_n 13 rfl rfl rfl trivial ?_
    refine zr_getf 16 rfl rfl rfl rfl rfl ?_
    refine zr_isub 17 rfl rfl ?_
    rw [h.2.2.1, h.2.2.2.1, znsub ha]
    refine zr_iconst 18 (x := 2) rfl rfl (by decide) ?_
    refine zr_icmp_le 26 21 rfl rfl (by decide) (fun c18z => ?_) (fun c18z => ?_)
    · rw [show (2 : Int32) = nI 2 from rfl, nI_leI (by omega) (by omega)] at c18z
      refine zr_iconst 27 (x := 0) rfl rfl (by decide) ?_
      refine zr_istore_n 28 (L2 := [_, _, _, _, _]) rfl rfl (Nat.le_of_ble_eq_true rfl) (by first | exact trivial | exact rfl) rfl ?_
      refine zr_aload_n 29 rfl rfl rfl trivial ?_
      refine zr_getf 32 rfl rfl rfl rfl rfl ?_
      refine zr_istore 34 (L2 := [_, _, _, _, _]) rfl rfl (Nat.le_of_ble_eq_true rfl) (by first | exact trivial | exact rfl) rfl ?_
      rw [h.2.2.1]
      exact key _ t.1 0 rfl (Nat.le_refl _) ha c5z c18z rfl
    · rw [show (2 : Int32) = nI 2 from rfl, nI_leI (by omega) (by omega)] at c18z
      refine zr_aload_n 22 rfl rfl rfl trivial ?_
      refine zr_callv 25 (As := []) (u2 := (0, 0)) rfl rfl rfl rfl rfl rfl rfl (Nat.le_of_ble_eq_true rfl) (Nat.le_of_ble_eq_true rfl) (Nat.le_of_ble_eq_true rfl) rfl (c_fail h.2.2.1) rfl (fun v2 w2 h22z => ?_)
      obtain ⟨rfl, rfl⟩ := h22z
      refine zr_zret rfl rfl (Or.inl rfl) ?_
      have hno : ¬ znok tb t lo hi := fun z => c18z z.2.1
      refine ⟨_, rfl, by rw [zb_f hno], fun z => absurd z hno, fun _ => ⟨zu_same _ _ _ _, ?_⟩, fun b hb => zun hb⟩
      rw [zu_ne (Or.inr (by decide))]
      exact h.1
