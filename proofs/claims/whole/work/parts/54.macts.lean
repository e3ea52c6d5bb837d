abbrev zMT (ξ : Nat → Nat → Int32) (k a m : Int32) (t : zT) : Prop := ξ 42 45 = nI t.1 ∧ ξ 67 = t.2.1 ∧ ξ 42 46 = t.2.2 ∧ ξ 42 41 = k ∧ ξ 42 43 = a ∧ ξ 42 42 = m ∧ t.1 ≤ 30
abbrev zfrM (ξ ξ2 : Nat → Nat → Int32) : Prop := (∀ b, b ≠ 42 → b ≠ 67 → ξ2 b = ξ b) ∧ ∀ k, k ≠ 45 → k ≠ 46 → ξ2 42 k = ξ 42 k
theorem zfrM.rf (ξ : Nat → Nat → Int32) : zfrM ξ ξ := ⟨fun _ _ _ => rfl, fun _ _ _ => rfl⟩
theorem zfrM.tr {ξ ξ1 ξ2 : Nat → Nat → Int32} (f : zfrM ξ ξ1) (g : zfrM ξ1 ξ2) : zfrM ξ ξ2 := ⟨fun b h1 h2 => (g.1 b h1 h2).trans (f.1 b h1 h2), fun k h1 h2 => (g.2 k h1 h2).trans (f.2 k h1 h2)⟩
theorem zbeg_f (y : Int32) (t : zT) : (zbeg y t).2.2 = t.2.2 := by unfold zbeg; split <;> rfl
theorem zbeg_n {y : Int32} {t : zT} (h : ¬ t.2.2 = 0) : zbeg y t = t := if_neg (fun q => h q.1)
theorem zwk0_f (m x : Int32) (t : zT) : (zwk0 m x t).2.2.2 = t.2.2 := zbeg_f 10 t
theorem zwk2_f (m x : Int32) (t : zT) : (zwk2 m x t).2.2.2 = t.2.2 := (zwk0_f m x (zbeg 30 t)).trans (zbeg_f 30 t)
theorem zwk_f (k m x : Int32) (t : zT) : (zwk k m x t).2.2.2 = t.2.2 := by
  unfold zwk
  split
  · exact zwk2_f m x t
  split
  · exact (zwk0_f m x (zbeg 51 t)).trans (zbeg_f 51 t)
  split
  · exact (zwk2_f m x (zbeg 40 t)).trans (zbeg_f 40 t)
  · exact zwk0_f m x t
theorem zwt0_f (k m x : Int32) (t : zT) : (zwt0 k m x t).2.2.2 = t.2.2 := (zwk_f k m x (zbeg 11 t)).trans (zbeg_f 11 t)
theorem zwt_f (k a m as x : Int32) (t : zT) : (zwt k a m as x t).2.2.2 = t.2.2 := by
  unfold zwt
  split
  · exact (zwt0_f k m x (zbeg 20 t)).trans (zbeg_f 20 t)
  split
  · exact (zwk_f k m m (zwt0 k m x (zbeg 41 t)).2).trans ((zwt0_f k m x (zbeg 41 t)).trans (zbeg_f 41 t))
  · exact zwt0_f k m x t
theorem ztl0_f (k a m x : Int32) (t : zT) : (ztl0 k a m x t).2.2.2 = t.2.2 := (zwt_f k a m k x (zbeg 13 t)).trans (zbeg_f 13 t)
theorem zwk0_n {m x : Int32} {t : zT} (h : ¬ t.2.2 = 0) : (zwk0 m x t).2 = t := zbeg_n h
theorem zwk2_n {m x : Int32} {t : zT} (h : ¬ t.2.2 = 0) : (zwk2 m x t).2 = t := by
  show (zwk0 m x (zbeg 30 t)).2 = t
  rw [zbeg_n h]
  exact zwk0_n h
theorem zwk_n {k m x : Int32} {t : zT} (h : ¬ t.2.2 = 0) : (zwk k m x t).2 = t := by
  unfold zwk
  split
  · exact zwk2_n h
  split
  · show (zwk0 m x (zbeg 51 t)).2 = t
    rw [zbeg_n h]
    exact zwk0_n h
  split
  · show (zwk2 m x (zbeg 40 t)).2 = t
    rw [zbeg_n h]
    exact zwk2_n h
  · exact zwk0_n h
theorem zsub0 (a m : Int32) : a - m = 0 ↔ a = m :=
  ⟨fun h => by rw [← Int32.sub_add_cancel a m, h, Int32.zero_add], fun h => by rw [h, Int32.sub_self]⟩
set_option maxRecDepth 20000 in
set_option maxHeartbeats 1000000 in
theorem c_Mran {S : Nat × (Nat → Int32)} {d n : Nat} {ξ : Nat → Nat → Int32} {ρ : zRho} {k a m : Int32} {t : zT} (h : zMT ξ k a m t) (h0 : t.2.2 = 0) (y : Int32) : Zc S (d + 1) jX6_ran [.ref 42, .int y] (zWof n ξ ρ) (fun r w => r = none ∧ ∃ ξ2, w = zWof n ξ2 ρ ∧ zMT ξ2 k a m (zbeg y t) ∧ zfrM ξ ξ2) := by
  have h30 := h.2.2.2.2.2.2
  refine Zc_in (q := (6, 0, 0, 1, 2, 0, 0, zk_X6_ran)) rfl (Nat.le_of_ble_eq_true rfl) (L := [_, _]) rfl ?_
  refine zr_aload_n 1 rfl rfl rfl trivial ?_
  refine zr_getf 4 rfl rfl rfl rfl rfl ?_
  refine zr_bipush 6 (x := 30) rfl rfl (by decide) ?_
  refine zr_icmp_ge 29 9 rfl rfl (by decide) (fun c6z => ?_) (fun c6z => ?_)
  · rw [h.1, show (30 : Int32) = nI 30 from rfl, nI_leI (by decide) (by omega)] at c6z
    refine zr_ret rfl rfl ?_
    refine ⟨rfl, ξ, rfl, ?_, zfrM.rf _⟩
    rw [show zbeg y t = t from if_neg (fun z => by omega)]
    exact h
  · rw [h.1, show (30 : Int32) = nI 30 from rfl, nI_leI (by decide) (by omega)] at c6z
    refine zr_aload_n 10 rfl rfl rfl trivial ?_
    refine zr_getf 13 rfl rfl rfl rfl rfl ?_
    refine zr_aload_n 14 rfl rfl rfl trivial ?_
    refine zr_getf 17 rfl rfl rfl rfl rfl ?_
    rw [h.1]
    refine zr_iload_n 18 rfl rfl rfl ?_
    refine zr_iast 19 rfl rfl rfl (nI_clamp (by omega)) (vp_in_nI (by omega) (by omega)) (zW_set rfl) ?_
    refine zr_aload_n 20 rfl rfl rfl trivial ?_
    refine zr_dup 21 rfl rfl rfl ?_
    refine zr_getf 24 rfl rfl rfl rfl rfl ?_
    refine zr_iconst 25 (x := 1) rfl rfl (by decide) ?_
    refine zr_iadd 26 rfl rfl ?_
    refine zr_putf 29 rfl rfl rfl rfl (Nat.le_of_ble_eq_true rfl) rfl trivial (fun h => by cases h) (zW_set (k := 45) rfl) ?_
    refine zr_ret rfl rfl ?_
    refine ⟨rfl, _, rfl, ?_, ⟨fun b b1 b2 => by rw [zun b1, zun b2], fun j j1 j2 => by rw [zu_ne (Or.inr j1), zun (by decide)]⟩⟩
    obtain ⟨q1, q2, q3, q4, q5, q6, q7⟩ := h
    rw [show zbeg y t = (t.1 + 1, upd t.2.1 t.1 y, t.2.2) from if_pos ⟨h0, by omega⟩]
    refine ⟨?_, ?_, ?_, ?_, ?_, ?_, by show t.1 + 1 ≤ 30; omega⟩
    · rw [zu_same, zun (by decide), q1, nI_1]
    · rw [zun (by decide), zup, q2]
    · rw [zu_ne (Or.inr (by decide)), zun (by decide)]
      exact q3
    · rw [zu_ne (Or.inr (by decide)), zun (by decide)]
      exact q4
    · rw [zu_ne (Or.inr (by decide)), zun (by decide)]
      exact q5
    · rw [zu_ne (Or.inr (by decide)), zun (by decide)]
      exact q6
set_option maxRecDepth 20000 in
set_option maxHeartbeats 1000000 in
theorem c_MplainWorks {S : Nat × (Nat → Int32)} {d n : Nat} {ξ : Nat → Nat → Int32} {ρ : zRho} {k a m : Int32} {t : zT} (h : zMT ξ k a m t) (h0 : t.2.2 = 0) (x : Int32) : Zc S (d + 2) jX6_plainWorks [.ref 42, .int x] (zWof n ξ ρ) (fun r w => r = some (.int (zwk0 m x t).1) ∧ ∃ ξ2, w = zWof n ξ2 ρ ∧ zMT ξ2 k a m (zwk0 m x t).2 ∧ zfrM ξ ξ2) := by
  refine Zc_in (q := (6, 0, 1, 1, 2, 0, 0, zk_X6_plainWorks)) rfl (Nat.le_of_ble_eq_true rfl) (L := [_, _]) rfl ?_
  refine zr_aload_n 1 rfl rfl rfl trivial ?_
  refine zr_bipush 3 (x := 10) rfl rfl (by decide) ?_
  refine zr_callv 6 (As := [_]) (u2 := (0, 0)) rfl rfl rfl rfl rfl rfl rfl (Nat.le_of_ble_eq_true rfl) (Nat.le_of_ble_eq_true rfl) (Nat.le_of_ble_eq_true rfl) rfl (c_Mran h (h0) 10) rfl (fun v2 w2 h3z => ?_)
  obtain ⟨rfl, ξ3z, rfl, x3z, f3z⟩ := h3z
  refine zr_iload_n 7 rfl rfl rfl ?_
  refine zr_aload_n 8 rfl rfl rfl trivial ?_
  refine zr_getf 11 rfl rfl rfl rfl rfl ?_
  refine zr_iadd 12 rfl rfl ?_
  refine zr_iret rfl rfl ?_
  exact ⟨by rw [x3z.2.2.2.2.2.1]; rfl, ξ3z, rfl, x3z, f3z⟩
set_option maxRecDepth 20000 in
set_option maxHeartbeats 1000000 in
theorem c_MhalverWorks {S : Nat × (Nat → Int32)} {d n : Nat} {ξ : Nat → Nat → Int32} {ρ : zRho} {k a m : Int32} {t : zT} (h : zMT ξ k a m t) (h0 : t.2.2 = 0) (x : Int32) : Zc S (d + 3) jX6_halverWorks [.ref 42, .int x] (zWof n ξ ρ) (fun r w => r = some (.int (zwk2 m x t).1) ∧ ∃ ξ2, w = zWof n ξ2 ρ ∧ zMT ξ2 k a m (zwk2 m x t).2 ∧ zfrM ξ ξ2) := by
  refine Zc_in (q := (6, 0, 1, 1, 2, 0, 0, zk_X6_halverWorks)) rfl (Nat.le_of_ble_eq_true rfl) (L := [_, _]) rfl ?_
  refine zr_aload_n 1 rfl rfl rfl trivial ?_
  refine zr_bipush 3 (x := 30) rfl rfl (by decide) ?_
  refine zr_callv 6 (As := [_]) (u2 := (0, 0)) rfl rfl rfl rfl rfl rfl rfl (Nat.le_of_ble_eq_true rfl) (Nat.le_of_ble_eq_true rfl) (Nat.le_of_ble_eq_true rfl) rfl (c_Mran h (h0) 30) rfl (fun v2 w2 h3z => ?_)
  obtain ⟨rfl, ξ3z, rfl, x3z, f3z⟩ := h3z
  refine zr_aload_n 7 rfl rfl rfl trivial ?_
  refine zr_iload_n 8 rfl rfl rfl ?_
  refine zr_callv 11 (As := [_]) (u2 := (0, 0)) rfl rfl rfl rfl rfl rfl rfl (Nat.le_of_ble_eq_true rfl) (Nat.le_of_ble_eq_true rfl) (Nat.le_of_ble_eq_true rfl) rfl (c_MplainWorks x3z ((zbeg_f 30 t).trans h0) _) rfl (fun v2 w2 h8z => ?_)
  obtain ⟨rfl, ξ8z, rfl, x8z, f8z⟩ := h8z
  refine zr_iconst 12 (x := 3) rfl rfl (by decide) ?_
  refine zr_imul 13 rfl rfl ?_
  refine zr_iret rfl rfl ?_
  exact ⟨rfl, ξ8z, rfl, x8z, f3z.tr f8z⟩
set_option maxRecDepth 20000 in
set_option maxHeartbeats 1000000 in
theorem c_MworksIt {S : Nat × (Nat → Int32)} {d n : Nat} {ξ : Nat → Nat → Int32} {ρ : zRho} {k a m : Int32} {t : zT} (h : zMT ξ k a m t) (h0 : t.2.2 = 0) (x : Int32) : Zc S (d + 4) jX6_worksIt [.ref 42, .int x] (zWof n ξ ρ) (fun r w => r = some (.int (zwk k m x t).1) ∧ ∃ ξ2, w = zWof n ξ2 ρ ∧ zMT ξ2 k a m (zwk k m x t).2 ∧ zfrM ξ ξ2) := by
  refine Zc_in (q := (6, 0, 1, 1, 2, 0, 0, zk_X6_worksIt)) rfl (Nat.le_of_ble_eq_true rfl) (L := [_, _]) rfl ?_
  refine zr_aload_n 1 rfl rfl rfl trivial ?_
  refine zr_getf 4 rfl rfl rfl rfl rfl ?_
  rw [h.2.2.2.1]
  by_cases s4_2 : k = 2
  · refine zr_tsw_in 32 0 rfl (by rw [s4_2]; decide) (by decide) rfl (by decide) ?_
    refine zr_aload_n 33 rfl rfl rfl trivial ?_
    refine zr_iload_n 34 rfl rfl rfl ?_
    refine zr_callv 37 (As := [_]) (u2 := (0, 0)) rfl rfl rfl rfl rfl rfl rfl (Nat.le_of_ble_eq_true rfl) (Nat.le_of_ble_eq_true rfl) (Nat.le_of_ble_eq_true rfl) rfl (c_MhalverWorks h h0 _) rfl (fun v2 w2 h34z => ?_)
    obtain ⟨rfl, ξ34z, rfl, x34z, f34z⟩ := h34z
    refine zr_iret rfl rfl ?_
    rw [show zwk k m x t = _ from if_pos s4_2]
    exact ⟨rfl, ξ34z, rfl, x34z, f34z⟩
  by_cases s4_3 : k = 3
  · refine zr_tsw_in 52 1 rfl (by rw [s4_3]; decide) (by decide) rfl (by decide) ?_
    refine zr_aload_n 53 rfl rfl rfl trivial ?_
    refine zr_bipush 55 (x := 51) rfl rfl (by decide) ?_
    refine zr_callv 58 (As := [_]) (u2 := (0, 0)) rfl rfl rfl rfl rfl rfl rfl (Nat.le_of_ble_eq_true rfl) (Nat.le_of_ble_eq_true rfl) (Nat.le_of_ble_eq_true rfl) rfl (c_Mran h (h0) 51) rfl (fun v2 w2 h55z => ?_)
    obtain ⟨rfl, ξ55z, rfl, x55z, f55z⟩ := h55z
    refine zr_aload_n 59 rfl rfl rfl trivial ?_
    refine zr_iload_n 60 rfl rfl rfl ?_
    refine zr_callv 63 (As := [_]) (u2 := (0, 0)) rfl rfl rfl rfl rfl rfl rfl (Nat.le_of_ble_eq_true rfl) (Nat.le_of_ble_eq_true rfl) (Nat.le_of_ble_eq_true rfl) rfl (c_MplainWorks x55z ((zbeg_f 51 t).trans h0) _) rfl (fun v2 w2 h60z => ?_)
    obtain ⟨rfl, ξ60z, rfl, x60z, f60z⟩ := h60z
    refine zr_aload_n 64 rfl rfl rfl trivial ?_
    refine zr_getf 67 rfl rfl rfl rfl rfl ?_
    refine zr_isub 68 rfl rfl ?_
    refine zr_iret rfl rfl ?_
    rw [show zwk k m x t = _ from (if_neg (by rw [s4_3]; decide)).trans (if_pos s4_3)]
    exact ⟨(by rw [x60z.2.2.2.2.2.1]), ξ60z, rfl, x60z, f55z.tr f60z⟩
  by_cases s4_4 : k = 4
  · refine zr_tsw_in 38 2 rfl (by rw [s4_4]; decide) (by decide) rfl (by decide) ?_
    refine zr_aload_n 39 rfl rfl rfl trivial ?_
    refine zr_bipush 41 (x := 40) rfl rfl (by decide) ?_
    refine zr_callv 44 (As := [_]) (u2 := (0, 0)) rfl rfl rfl rfl rfl rfl rfl (Nat.le_of_ble_eq_true rfl) (Nat.le_of_ble_eq_true rfl) (Nat.le_of_ble_eq_true rfl) rfl (c_Mran h (h0) 40) rfl (fun v2 w2 h41z => ?_)
    obtain ⟨rfl, ξ41z, rfl, x41z, f41z⟩ := h41z
    refine zr_iconst 45 (x := 0) rfl rfl (by decide) ?_
    refine zr_aload_n 46 rfl rfl rfl trivial ?_
    refine zr_iload_n 47 rfl rfl rfl ?_
    refine zr_callv 50 (As := [_]) (u2 := (0, 0)) rfl rfl rfl rfl rfl rfl rfl (Nat.le_of_ble_eq_true rfl) (Nat.le_of_ble_eq_true rfl) (Nat.le_of_ble_eq_true rfl) rfl (c_MhalverWorks x41z ((zbeg_f 40 t).trans h0) _) rfl (fun v2 w2 h47z => ?_)
    obtain ⟨rfl, ξ47z, rfl, x47z, f47z⟩ := h47z
    refine zr_isub 51 rfl rfl ?_
    refine zr_iret rfl rfl ?_
    rw [show zwk k m x t = _ from (if_neg (by rw [s4_4]; decide)).trans ((if_neg (by rw [s4_4]; decide)).trans (if_pos s4_4))]
    exact ⟨rfl, ξ47z, rfl, x47z, f41z.tr f47z⟩
  refine zr_tsw_out 69 rfl (by have q0 := zne_i s4_2; have q1 := zne_i s4_3; have q2 := zne_i s4_4; rw [show (2 : Int32).toInt = 2 by decide] at q0; rw [show (3 : Int32).toInt = 3 by decide] at q1; rw [show (4 : Int32).toInt = 4 by decide] at q2; omega) (by decide) ?_
  refine zr_aload_n 70 rfl rfl rfl trivial ?_
  refine zr_iload_n 71 rfl rfl rfl ?_
  refine zr_callv 74 (As := [_]) (u2 := (0, 0)) rfl rfl rfl rfl rfl rfl rfl (Nat.le_of_ble_eq_true rfl) (Nat.le_of_ble_eq_true rfl) (Nat.le_of_ble_eq_true rfl) rfl (c_MplainWorks h h0 _) rfl (fun v2 w2 h71z => ?_)
  obtain ⟨rfl, ξ71z, rfl, x71z, f71z⟩ := h71z
  refine zr_iret rfl rfl ?_
  rw [show zwk k m x t = _ from (if_neg s4_2).trans ((if_neg s4_3).trans (if_neg s4_4))]
  exact ⟨rfl, ξ71z, rfl, x71z, f71z⟩
set_option maxRecDepth 20000 in
set_option maxHeartbeats 1000000 in
theorem c_MplainWaits {S : Nat × (Nat → Int32)} {d n : Nat} {ξ : Nat → Nat → Int32} {ρ : zRho} {k a m : Int32} {t : zT} (h : zMT ξ k a m t) (h0 : t.2.2 = 0) (x : Int32) : Zc S (d + 5) jX6_plainWaits [.ref 42, .int x] (zWof n ξ ρ) (fun r w => r = some (.int (zwt0 k m x t).1) ∧ ∃ ξ2, w = zWof n ξ2 ρ ∧ zMT ξ2 k a m (zwt0 k m x t).2 ∧ zfrM ξ ξ2) := by
  refine Zc_in (q := (6, 0, 1, 1, 2, 0, 0, zk_X6_plainWaits)) rfl (Nat.le_of_ble_eq_true rfl) (L := [_, _]) rfl ?_
  refine zr_aload_n 1 rfl rfl rfl trivial ?_
  refine zr_bipush 3 (x := 11) rfl rfl (by decide) ?_
  refine zr_callv 6 (As := [_]) (u2 := (0, 0)) rfl rfl rfl rfl rfl rfl rfl (Nat.le_of_ble_eq_true rfl) (Nat.le_of_ble_eq_true rfl) (Nat.le_of_ble_eq_true rfl) rfl (c_Mran h (h0) 11) rfl (fun v2 w2 h3z => ?_)
  obtain ⟨rfl, ξ3z, rfl, x3z, f3z⟩ := h3z
  refine zr_aload_n 7 rfl rfl rfl trivial ?_
  refine zr_iload_n 8 rfl rfl rfl ?_
  refine zr_callv 11 (As := [_]) (u2 := (0, 0)) rfl rfl rfl rfl rfl rfl rfl (Nat.le_of_ble_eq_true rfl) (Nat.le_of_ble_eq_true rfl) (Nat.le_of_ble_eq_true rfl) rfl (c_MworksIt x3z ((zbeg_f 11 t).trans h0) _) rfl (fun v2 w2 h8z => ?_)
  obtain ⟨rfl, ξ8z, rfl, x8z, f8z⟩ := h8z
  refine zr_iconst 12 (x := 2) rfl rfl (by decide) ?_
  refine zr_imul 13 rfl rfl ?_
  refine zr_iret rfl rfl ?_
  exact ⟨rfl, ξ8z, rfl, x8z, f3z.tr f8z⟩
set_option maxRecDepth 20000 in
set_option maxHeartbeats 1000000 in
theorem c_MwaitsIt {S : Nat × (Nat → Int32)} {d n : Nat} {ξ : Nat → Nat → Int32} {ρ : zRho} {k a m : Int32} {t : zT} (h : zMT ξ k a m t) (h0 : t.2.2 = 0) (x : Int32) : Zc S (d + 6) jX6_waitsIt [.ref 42, .int x] (zWof n ξ ρ) (fun r w => r = some (.int (zwt k a m k x t).1) ∧ ∃ ξ2, w = zWof n ξ2 ρ ∧ zMT ξ2 k a m (zwt k a m k x t).2 ∧ zfrM ξ ξ2) := by
  refine Zc_in (q := (6, 0, 1, 1, 3, 0, 0, zk_X6_waitsIt)) rfl (Nat.le_of_ble_eq_true rfl) (L := [_, _, _]) rfl ?_
  refine zr_aload_n 1 rfl rfl rfl trivial ?_
  refine zr_getf 4 rfl rfl rfl rfl rfl ?_
  refine zr_iconst 5 (x := 1) rfl rfl (by decide) ?_
  refine zr_icmp_eq 16 8 rfl rfl (by decide) (fun c5z => ?_) (fun c5z => ?_)
  · rw [h.2.2.2.1] at c5z
    have hk : k = 1 ∨ k = 3 := Or.inl c5z
    refine zr_aload_n 17 rfl rfl rfl trivial ?_
    refine zr_bipush 19 (x := 20) rfl rfl (by decide) ?_
    refine zr_callv 22 (As := [_]) (u2 := (0, 0)) rfl rfl rfl rfl rfl rfl rfl (Nat.le_of_ble_eq_true rfl) (Nat.le_of_ble_eq_true rfl) (Nat.le_of_ble_eq_true rfl) rfl (c_Mran h (h0) 20) rfl (fun v2 w2 h19z => ?_)
    obtain ⟨rfl, ξ19z, rfl, x19z, f19z⟩ := h19z
    refine zr_aload_n 23 rfl rfl rfl trivial ?_
    refine zr_iload_n 24 rfl rfl rfl ?_
    refine zr_callv 27 (As := [_]) (u2 := (0, 0)) rfl rfl rfl rfl rfl rfl rfl (Nat.le_of_ble_eq_true rfl) (Nat.le_of_ble_eq_true rfl) (Nat.le_of_ble_eq_true rfl) rfl (c_MplainWaits x19z ((zbeg_f 20 t).trans h0) _) rfl (fun v2 w2 h24z => ?_)
    obtain ⟨rfl, ξ24z, rfl, x24z, f24z⟩ := h24z
    refine zr_aload_n 28 rfl rfl rfl trivial ?_
    refine zr_getf 31 rfl rfl rfl rfl rfl ?_
    refine zr_isub 32 rfl rfl ?_
    refine zr_iret rfl rfl ?_
    rw [show zwt k a m k x t = _ from if_pos hk]
    exact ⟨(by rw [x24z.2.2.2.2.1]), ξ24z, rfl, x24z, f19z.tr f24z⟩
  · rw [h.2.2.2.1] at c5z
    refine zr_aload_n 9 rfl rfl rfl trivial ?_
    refine zr_getf 12 rfl rfl rfl rfl rfl ?_
    refine zr_iconst 13 (x := 3) rfl rfl (by decide) ?_
    refine zr_icmp_ne 33 16 rfl rfl (by decide) (fun c13z => ?_) (fun c13z => ?_)
    · rw [h.2.2.2.1] at c13z
      refine zr_aload_n 34 rfl rfl rfl trivial ?_
      refine zr_getf 37 rfl rfl rfl rfl rfl ?_
      refine zr_iconst 38 (x := 4) rfl rfl (by decide) ?_
      refine zr_icmp_ne 64 41 rfl rfl (by decide) (fun c38z => ?_) (fun c38z => ?_)
      · rw [h.2.2.2.1] at c38z
        refine zr_aload_n 65 rfl rfl rfl trivial ?_
        refine zr_iload_n 66 rfl rfl rfl ?_
        refine zr_callv 69 (As := [_]) (u2 := (0, 0)) rfl rfl rfl rfl rfl rfl rfl (Nat.le_of_ble_eq_true rfl) (Nat.le_of_ble_eq_true rfl) (Nat.le_of_ble_eq_true rfl) rfl (c_MplainWaits h h0 _) rfl (fun v2 w2 h66z => ?_)
        obtain ⟨rfl, ξ66z, rfl, x66z, f66z⟩ := h66z
        refine zr_iret rfl rfl ?_
        rw [show zwt k a m k x t = _ from (if_neg (fun z => z.elim c5z c13z)).trans (if_neg c38z)]
        exact ⟨rfl, ξ66z, rfl, x66z, f66z⟩
      · rw [h.2.2.2.1] at c38z
        refine zr_aload_n 42 rfl rfl rfl trivial ?_
        refine zr_bipush 44 (x := 41) rfl rfl (by decide) ?_
        refine zr_callv 47 (As := [_]) (u2 := (0, 0)) rfl rfl rfl rfl rfl rfl rfl (Nat.le_of_ble_eq_true rfl) (Nat.le_of_ble_eq_true rfl) (Nat.le_of_ble_eq_true rfl) rfl (c_Mran h (h0) 41) rfl (fun v2 w2 h44z => ?_)
        obtain ⟨rfl, ξ44z, rfl, x44z, f44z⟩ := h44z
        refine zr_aload_n 48 rfl rfl rfl trivial ?_
        refine zr_iload_n 49 rfl rfl rfl ?_
        refine zr_callv 52 (As := [_]) (u2 := (0, 0)) rfl rfl rfl rfl rfl rfl rfl (Nat.le_of_ble_eq_true rfl) (Nat.le_of_ble_eq_true rfl) (Nat.le_of_ble_eq_true rfl) rfl (c_MplainWaits x44z ((zbeg_f 41 t).trans h0) _) rfl (fun v2 w2 h49z => ?_)
        obtain ⟨rfl, ξ49z, rfl, x49z, f49z⟩ := h49z
        refine zr_istore_n 53 (L2 := [_, _, _]) rfl rfl (Nat.le_of_ble_eq_true rfl) (by first | exact trivial | exact rfl) rfl ?_
        refine zr_iload_n 54 rfl rfl rfl ?_
        refine zr_aload_n 55 rfl rfl rfl trivial ?_
        refine zr_aload_n 56 rfl rfl rfl trivial ?_
        refine zr_getf 59 rfl rfl rfl rfl rfl ?_
        rw [x49z.2.2.2.2.2.1]
        refine zr_callv 62 (As := [_]) (u2 := (0, 0)) rfl rfl rfl rfl rfl rfl rfl (Nat.le_of_ble_eq_true rfl) (Nat.le_of_ble_eq_true rfl) (Nat.le_of_ble_eq_true rfl) rfl (c_MworksIt x49z ((zwt0_f _ _ _ _).trans ((zbeg_f 41 t).trans h0)) _) rfl (fun v2 w2 h59z => ?_)
        obtain ⟨rfl, ξ59z, rfl, x59z, f59z⟩ := h59z
        refine zr_iadd 63 rfl rfl ?_
        refine zr_iret rfl rfl ?_
        rw [show zwt k a m k x t = _ from (if_neg (fun z => z.elim c5z c13z)).trans (if_pos c38z)]
        exact ⟨rfl, ξ59z, rfl, x59z, (f44z.tr f49z).tr f59z⟩
    · rw [h.2.2.2.1] at c13z
      have hk : k = 1 ∨ k = 3 := Or.inr c13z
      refine zr_aload_n 17 rfl rfl rfl trivial ?_
      refine zr_bipush 19 (x := 20) rfl rfl (by decide) ?_
      refine zr_callv 22 (As := [_]) (u2 := (0, 0)) rfl rfl rfl rfl rfl rfl rfl (Nat.le_of_ble_eq_true rfl) (Nat.le_of_ble_eq_true rfl) (Nat.le_of_ble_eq_true rfl) rfl (c_Mran h (h0) 20) rfl (fun v2 w2 h19z => ?_)
      obtain ⟨rfl, ξ19z, rfl, x19z, f19z⟩ := h19z
      refine zr_aload_n 23 rfl rfl rfl trivial ?_
      refine zr_iload_n 24 rfl rfl rfl ?_
      refine zr_callv 27 (As := [_]) (u2 := (0, 0)) rfl rfl rfl rfl rfl rfl rfl (Nat.le_of_ble_eq_true rfl) (Nat.le_of_ble_eq_true rfl) (Nat.le_of_ble_eq_true rfl) rfl (c_MplainWaits x19z ((zbeg_f 20 t).trans h0) _) rfl (fun v2 w2 h24z => ?_)
      obtain ⟨rfl, ξ24z, rfl, x24z, f24z⟩ := h24z
      refine zr_aload_n 28 rfl rfl rfl trivial ?_
      refine zr_getf 31 rfl rfl rfl rfl rfl ?_
      refine zr_isub 32 rfl rfl ?_
      refine zr_iret rfl rfl ?_
      rw [show zwt k a m k x t = _ from if_pos hk]
      exact ⟨(by rw [x24z.2.2.2.2.1]), ξ24z, rfl, x24z, f19z.tr f24z⟩
set_option maxRecDepth 20000 in
set_option maxHeartbeats 1000000 in
theorem c_MplainShares {S : Nat × (Nat → Int32)} {d n : Nat} {ξ : Nat → Nat → Int32} {ρ : zRho} {k a m : Int32} {t : zT} (h : zMT ξ k a m t) (h0 : t.2.2 = 0) (x : Int32) : Zc S (d + 2) jX6_plainShares [.ref 42, .int x] (zWof n ξ ρ) (fun r w => r = some (.int (zsr0 a m x t).1) ∧ ∃ ξ2, w = zWof n ξ2 ρ ∧ zMT ξ2 k a m (zsr0 a m x t).2 ∧ zfrM ξ ξ2) := by
  refine Zc_in (q := (6, 0, 1, 1, 2, 0, 0, zk_X6_plainShares)) rfl (Nat.le_of_ble_eq_true rfl) (L := [_, _]) rfl ?_
  refine zr_aload_n 1 rfl rfl rfl trivial ?_
  refine zr_bipush 3 (x := 12) rfl rfl (by decide) ?_
  refine zr_callv 6 (As := [_]) (u2 := (0, 0)) rfl rfl rfl rfl rfl rfl rfl (Nat.le_of_ble_eq_true rfl) (Nat.le_of_ble_eq_true rfl) (Nat.le_of_ble_eq_true rfl) rfl (c_Mran h (h0) 12) rfl (fun v2 w2 h3z => ?_)
  obtain ⟨rfl, ξ3z, rfl, x3z, f3z⟩ := h3z
  refine zr_aload_n 7 rfl rfl rfl trivial ?_
  refine zr_getf 10 rfl rfl rfl rfl rfl ?_
  refine zr_aload_n 11 rfl rfl rfl trivial ?_
  refine zr_getf 14 rfl rfl rfl rfl rfl ?_
  refine zr_icmp_ne 24 17 rfl rfl (by decide) (fun c14z => ?_) (fun c14z => ?_)
  · rw [x3z.2.2.2.2.1, x3z.2.2.2.2.2.1] at c14z
    have hne : ¬ a - m = 0 := fun q => c14z ((zsub0 a m).mp q)
    refine zr_iload_n 25 rfl rfl rfl ?_
    refine zr_aload_n 26 rfl rfl rfl trivial ?_
    refine zr_getf 29 rfl rfl rfl rfl rfl ?_
    refine zr_aload_n 30 rfl rfl rfl trivial ?_
    refine zr_getf 33 rfl rfl rfl rfl rfl ?_
    refine zr_isub 34 rfl rfl ?_
    rw [x3z.2.2.2.2.1, x3z.2.2.2.2.2.1]
    refine zr_idiv 35 rfl rfl hne ?_
    refine zr_iret rfl rfl ?_
    rw [show zsr0 a m x t = _ from if_neg hne]
    exact ⟨rfl, ξ3z, rfl, x3z, f3z⟩
  · rw [x3z.2.2.2.2.1, x3z.2.2.2.2.2.1] at c14z
    refine zr_aload_n 18 rfl rfl rfl trivial ?_
    refine zr_iconst 19 (x := 1) rfl rfl (by decide) ?_
    refine zr_putf 22 rfl rfl rfl rfl (Nat.le_of_ble_eq_true rfl) rfl (by first | exact Or.inl rfl | exact Or.inr rfl | assumption) (fun h => by cases h) (zW_set (k := 46) rfl) ?_
    refine zr_iconst 23 (x := 0) rfl rfl (by decide) ?_
    refine zr_iret rfl rfl ?_
    rw [show zsr0 a m x t = _ from if_pos ((zsub0 a m).mpr c14z)]
    obtain ⟨q1, q2, q3, q4, q5, q6, q7⟩ := x3z
    exact ⟨rfl, _, rfl, ⟨by rw [zu_ne (Or.inr (by decide))]; exact q1, by rw [zun (by decide)]; exact q2, zu_same _ _ _ _, by rw [zu_ne (Or.inr (by decide))]; exact q4, by rw [zu_ne (Or.inr (by decide))]; exact q5, by rw [zu_ne (Or.inr (by decide))]; exact q6, q7⟩, ⟨fun b b1 b2 => by rw [zun b1]; exact f3z.1 b b1 b2, fun j j1 j2 => by rw [zu_ne (Or.inr j2)]; exact f3z.2 j j1 j2⟩⟩
set_option maxRecDepth 20000 in
set_option maxHeartbeats 1000000 in
theorem c_MsharesIt {S : Nat × (Nat → Int32)} {d n : Nat} {ξ : Nat → Nat → Int32} {ρ : zRho} {k a m : Int32} {t : zT} (h : zMT ξ k a m t) (h0 : t.2.2 = 0) (x : Int32) : Zc S (d + 5) jX6_sharesIt [.ref 42, .int x] (zWof n ξ ρ) (fun r w => ∃ v, r = some (.int v) ∧ ((zsr k a m k x t).2.2.2 = 0 → v = (zsr k a m k x t).1) ∧ ∃ ξ2, w = zWof n ξ2 ρ ∧ zMT ξ2 k a m (zsr k a m k x t).2 ∧ zfrM ξ ξ2) := by
  refine Zc_in (q := (6, 0, 1, 1, 3, 0, 0, zk_X6_sharesIt)) rfl (Nat.le_of_ble_eq_true rfl) (L := [_, _, _]) rfl ?_
  refine zr_aload_n 1 rfl rfl rfl trivial ?_
  refine zr_getf 4 rfl rfl rfl rfl rfl ?_
  refine zr_iconst 5 (x := 3) rfl rfl (by decide) ?_
  refine zr_icmp_ne 24 8 rfl rfl (by decide) (fun c5z => ?_) (fun c5z => ?_)
  · rw [h.2.2.2.1] at c5z
    refine zr_aload_n 25 rfl rfl rfl trivial ?_
    refine zr_getf 28 rfl rfl rfl rfl rfl ?_
    refine zr_iconst 29 (x := 5) rfl rfl (by decide) ?_
    refine zr_icmp_ne 66 32 rfl rfl (by decide) (fun c29z => ?_) (fun c29z => ?_)
    · rw [h.2.2.2.1] at c29z
      refine zr_aload_n 67 rfl rfl rfl trivial ?_
      refine zr_iload_n 68 rfl rfl rfl ?_
      refine zr_callv 71 (As := [_]) (u2 := (0, 0)) rfl rfl rfl rfl rfl rfl rfl (Nat.le_of_ble_eq_true rfl) (Nat.le_of_ble_eq_true rfl) (Nat.le_of_ble_eq_true rfl) rfl (c_MplainShares h h0 _) rfl (fun v2 w2 h68z => ?_)
      obtain ⟨rfl, ξ68z, rfl, x68z, f68z⟩ := h68z
      refine zr_iret rfl rfl ?_
      rw [show zsr k a m k x t = _ from (if_neg c5z).trans (if_neg c29z)]
      exact ⟨_, rfl, fun _ => rfl, ξ68z, rfl, x68z, f68z⟩
    · rw [h.2.2.2.1] at c29z
      refine zr_aload_n 33 rfl rfl rfl trivial ?_
      refine zr_bipush 35 (x := 61) rfl rfl (by decide) ?_
      refine zr_callv 38 (As := [_]) (u2 := (0, 0)) rfl rfl rfl rfl rfl rfl rfl (Nat.le_of_ble_eq_true rfl) (Nat.le_of_ble_eq_true rfl) (Nat.le_of_ble_eq_true rfl) rfl (c_Mran h (h0) 61) rfl (fun v2 w2 h35z => ?_)
      obtain ⟨rfl, ξ35z, rfl, x35z, f35z⟩ := h35z
      refine zr_aload_n 39 rfl rfl rfl trivial ?_
      refine zr_iload_n 40 rfl rfl rfl ?_
      refine zr_callv 43 (As := [_]) (u2 := (0, 0)) rfl rfl rfl rfl rfl rfl rfl (Nat.le_of_ble_eq_true rfl) (Nat.le_of_ble_eq_true rfl) (Nat.le_of_ble_eq_true rfl) rfl (c_MplainShares x35z ((zbeg_f 61 t).trans h0) _) rfl (fun v2 w2 h40z => ?_)
      obtain ⟨rfl, ξ40z, rfl, x40z, f40z⟩ := h40z
      refine zr_istore_n 44 (L2 := [_, _, _]) rfl rfl (Nat.le_of_ble_eq_true rfl) (by first | exact trivial | exact rfl) rfl ?_
      refine zr_aload_n 45 rfl rfl rfl trivial ?_
      refine zr_getf 48 rfl rfl rfl rfl rfl ?_
      refine zr_if_eq 55 51 rfl rfl (by decide) (fun c48z => ?_) (fun c48z => ?_)
      · rw [x40z.2.2.1] at c48z
        refine zr_iload_n 56 rfl rfl rfl ?_
        refine zr_aload_n 57 rfl rfl rfl trivial ?_
        refine zr_aload_n 58 rfl rfl rfl trivial ?_
        refine zr_getf 61 rfl rfl rfl rfl rfl ?_
        rw [x40z.2.2.2.2.1]
        refine zr_callv 64 (As := [_]) (u2 := (0, 0)) rfl rfl rfl rfl rfl rfl rfl (Nat.le_of_ble_eq_true rfl) (Nat.le_of_ble_eq_true rfl) (Nat.le_of_ble_eq_true rfl) rfl (c_MworksIt x40z c48z _) rfl (fun v2 w2 h61z => ?_)
        obtain ⟨rfl, ξ61z, rfl, x61z, f61z⟩ := h61z
        refine zr_iadd 65 rfl rfl ?_
        refine zr_iret rfl rfl ?_
        rw [show zsr k a m k x t = _ from (if_neg c5z).trans (if_pos c29z)]
        exact ⟨_, rfl, fun _ => rfl, ξ61z, rfl, x61z, (f35z.tr f40z).tr f61z⟩
      · rw [x40z.2.2.1] at c48z
        refine zr_iconst 52 (x := 0) rfl rfl (by decide) ?_
        refine zr_goto 65 rfl (by decide) ?_
        refine zr_iret rfl rfl ?_
        have e2 : (zwk k m a (zsr0 a m x (zbeg 61 t)).2).2 = (zsr0 a m x (zbeg 61 t)).2 := zwk_n c48z
        rw [show zsr k a m k x t = _ from (if_neg c5z).trans (if_pos c29z)]
        refine ⟨_, rfl, fun q => ?_, ξ40z, rfl, ?_, f35z.tr f40z⟩
        · rw [e2] at q
          exact absurd q c48z
        · show zMT ξ40z k a m (zwk k m a (zsr0 a m x (zbeg 61 t)).2).2
          rw [e2]
          exact x40z
  · rw [h.2.2.2.1] at c5z
    refine zr_aload_n 9 rfl rfl rfl trivial ?_
    refine zr_bipush 11 (x := 50) rfl rfl (by decide) ?_
    refine zr_callv 14 (As := [_]) (u2 := (0, 0)) rfl rfl rfl rfl rfl rfl rfl (Nat.le_of_ble_eq_true rfl) (Nat.le_of_ble_eq_true rfl) (Nat.le_of_ble_eq_true rfl) rfl (c_Mran h (h0) 50) rfl (fun v2 w2 h11z => ?_)
    obtain ⟨rfl, ξ11z, rfl, x11z, f11z⟩ := h11z
    refine zr_aload_n 15 rfl rfl rfl trivial ?_
    refine zr_iload_n 16 rfl rfl rfl ?_
    refine zr_iconst 17 (x := 2) rfl rfl (by decide) ?_
    refine zr_iadd 18 rfl rfl ?_
    refine zr_callv 21 (As := [_]) (u2 := (0, 0)) rfl rfl rfl rfl rfl rfl rfl (Nat.le_of_ble_eq_true rfl) (Nat.le_of_ble_eq_true rfl) (Nat.le_of_ble_eq_true rfl) rfl (c_MplainShares x11z ((zbeg_f 50 t).trans h0) _) rfl (fun v2 w2 h18z => ?_)
    obtain ⟨rfl, ξ18z, rfl, x18z, f18z⟩ := h18z
    refine zr_iconst 22 (x := 1) rfl rfl (by decide) ?_
    refine zr_ixor 23 rfl rfl ?_
    refine zr_iret rfl rfl ?_
    rw [show zsr k a m k x t = _ from if_pos c5z]
    exact ⟨_, rfl, fun _ => rfl, ξ18z, rfl, x18z, f11z.tr f18z⟩
set_option maxRecDepth 20000 in
set_option maxHeartbeats 1000000 in
theorem c_MplainTells {S : Nat × (Nat → Int32)} {d n : Nat} {ξ : Nat → Nat → Int32} {ρ : zRho} {k a m : Int32} {t : zT} (h : zMT ξ k a m t) (h0 : t.2.2 = 0) (x : Int32) : Zc S (d + 7) jX6_plainTells [.ref 42, .int x] (zWof n ξ ρ) (fun r w => r = some (.int (ztl0 k a m x t).1) ∧ ∃ ξ2, w = zWof n ξ2 ρ ∧ zMT ξ2 k a m (ztl0 k a m x t).2 ∧ zfrM ξ ξ2) := by
  refine Zc_in (q := (6, 0, 1, 1, 2, 0, 0, zk_X6_plainTells)) rfl (Nat.le_of_ble_eq_true rfl) (L := [_, _]) rfl ?_
  refine zr_aload_n 1 rfl rfl rfl trivial ?_
  refine zr_bipush 3 (x := 13) rfl rfl (by decide) ?_
  refine zr_callv 6 (As := [_]) (u2 := (0, 0)) rfl rfl rfl rfl rfl rfl rfl (Nat.le_of_ble_eq_true rfl) (Nat.le_of_ble_eq_true rfl) (Nat.le_of_ble_eq_true rfl) rfl (c_Mran h (h0) 13) rfl (fun v2 w2 h3z => ?_)
  obtain ⟨rfl, ξ3z, rfl, x3z, f3z⟩ := h3z
  refine zr_aload_n 7 rfl rfl rfl trivial ?_
  refine zr_iload_n 8 rfl rfl rfl ?_
  refine zr_callv 11 (As := [_]) (u2 := (0, 0)) rfl rfl rfl rfl rfl rfl rfl (Nat.le_of_ble_eq_true rfl) (Nat.le_of_ble_eq_true rfl) (Nat.le_of_ble_eq_true rfl) rfl (c_MwaitsIt x3z ((zbeg_f 13 t).trans h0) _) rfl (fun v2 w2 h8z => ?_)
  obtain ⟨rfl, ξ8z, rfl, x8z, f8z⟩ := h8z
  refine zr_aload_n 12 rfl rfl rfl trivial ?_
  refine zr_getf 15 rfl rfl rfl rfl rfl ?_
  refine zr_ixor 16 rfl rfl ?_
  refine zr_iret rfl rfl ?_
  exact ⟨by rw [x8z.2.2.2.2.1]; rfl, ξ8z, rfl, x8z, f3z.tr f8z⟩
set_option maxRecDepth 20000 in
set_option maxHeartbeats 1000000 in
theorem c_MtellsIt {S : Nat × (Nat → Int32)} {d n : Nat} {ξ : Nat → Nat → Int32} {ρ : zRho} {k a m : Int32} {t : zT} (h : zMT ξ k a m t) (h0 : t.2.2 = 0) (x : Int32) : Zc S (d + 8) jX6_tellsIt [.ref 42, .int x] (zWof n ξ ρ) (fun r w => ∃ v, r = some (.int v) ∧ ((ztl k a m k x t).2.2.2 = 0 → v = (ztl k a m k x t).1) ∧ ∃ ξ2, w = zWof n ξ2 ρ ∧ zMT ξ2 k a m (ztl k a m k x t).2 ∧ zfrM ξ ξ2) := by
  refine Zc_in (q := (6, 0, 1, 1, 3, 0, 0, zk_X6_tellsIt)) rfl (Nat.le_of_ble_eq_true rfl) (L := [_, _, _]) rfl ?_
  refine zr_aload_n 1 rfl rfl rfl trivial ?_
  refine zr_getf 4 rfl rfl rfl rfl rfl ?_
  refine zr_iconst 5 (x := 2) rfl rfl (by decide) ?_
  refine zr_icmp_eq 16 8 rfl rfl (by decide) (fun c5z => ?_) (fun c5z => ?_)
  · rw [h.2.2.2.1] at c5z
    have hk : k = 2 ∨ k = 4 := Or.inl c5z
    refine zr_aload_n 17 rfl rfl rfl trivial ?_
    refine zr_bipush 19 (x := 31) rfl rfl (by decide) ?_
    refine zr_callv 22 (As := [_]) (u2 := (0, 0)) rfl rfl rfl rfl rfl rfl rfl (Nat.le_of_ble_eq_true rfl) (Nat.le_of_ble_eq_true rfl) (Nat.le_of_ble_eq_true rfl) rfl (c_Mran h (h0) 31) rfl (fun v2 w2 h19z => ?_)
    obtain ⟨rfl, ξ19z, rfl, x19z, f19z⟩ := h19z
    refine zr_aload_n 23 rfl rfl rfl trivial ?_
    refine zr_iload_n 24 rfl rfl rfl ?_
    refine zr_callv 27 (As := [_]) (u2 := (0, 0)) rfl rfl rfl rfl rfl rfl rfl (Nat.le_of_ble_eq_true rfl) (Nat.le_of_ble_eq_true rfl) (Nat.le_of_ble_eq_true rfl) rfl (c_MplainTells x19z ((zbeg_f 31 t).trans h0) _) rfl (fun v2 w2 h24z => ?_)
    obtain ⟨rfl, ξ24z, rfl, x24z, f24z⟩ := h24z
    refine zr_istore_n 28 (L2 := [_, _, _]) rfl rfl (Nat.le_of_ble_eq_true rfl) (by first | exact trivial | exact rfl) rfl ?_
    refine zr_iload_n 29 rfl rfl rfl ?_
    refine zr_aload_n 30 rfl rfl rfl trivial ?_
    refine zr_aload_n 31 rfl rfl rfl trivial ?_
    refine zr_getf 34 rfl rfl rfl rfl rfl ?_
    rw [x24z.2.2.2.2.2.1]
    refine zr_callv 37 (As := [_]) (u2 := (0, 0)) rfl rfl rfl rfl rfl rfl rfl (Nat.le_of_ble_eq_true rfl) (Nat.le_of_ble_eq_true rfl) (Nat.le_of_ble_eq_true rfl) rfl (c_MsharesIt x24z ((ztl0_f _ _ _ _ _).trans ((zbeg_f 31 t).trans h0)) _) rfl (fun v2 w2 h34z => ?_)
    obtain ⟨v34z, rfl, g34z, ξ34z, rfl, x34z, f34z⟩ := h34z
    refine zr_iadd 38 rfl rfl ?_
    refine zr_iret rfl rfl ?_
    rw [show ztl k a m k x t = _ from if_pos hk]
    exact ⟨_, rfl, fun q => by rw [g34z q], ξ34z, rfl, x34z, (f19z.tr f24z).tr f34z⟩
  · rw [h.2.2.2.1] at c5z
    refine zr_aload_n 9 rfl rfl rfl trivial ?_
    refine zr_getf 12 rfl rfl rfl rfl rfl ?_
    refine zr_iconst 13 (x := 4) rfl rfl (by decide) ?_
    refine zr_icmp_ne 39 16 rfl rfl (by decide) (fun c13z => ?_) (fun c13z => ?_)
    · rw [h.2.2.2.1] at c13z
      refine zr_aload_n 40 rfl rfl rfl trivial ?_
      refine zr_getf 43 rfl rfl rfl rfl rfl ?_
      refine zr_iconst 44 (x := 5) rfl rfl (by decide) ?_
      refine zr_icmp_ne 61 47 rfl rfl (by decide) (fun c44z => ?_) (fun c44z => ?_)
      · rw [h.2.2.2.1] at c44z
        refine zr_aload_n 62 rfl rfl rfl trivial ?_
        refine zr_iload_n 63 rfl rfl rfl ?_
        refine zr_callv 66 (As := [_]) (u2 := (0, 0)) rfl rfl rfl rfl rfl rfl rfl (Nat.le_of_ble_eq_true rfl) (Nat.le_of_ble_eq_true rfl) (Nat.le_of_ble_eq_true rfl) rfl (c_MplainTells h h0 _) rfl (fun v2 w2 h63z => ?_)
        obtain ⟨rfl, ξ63z, rfl, x63z, f63z⟩ := h63z
        refine zr_iret rfl rfl ?_
        rw [show ztl k a m k x t = _ from (if_neg (fun z => z.elim c5z c13z)).trans (if_neg c44z)]
        exact ⟨_, rfl, fun _ => rfl, ξ63z, rfl, x63z, f63z⟩
      · rw [h.2.2.2.1] at c44z
        refine zr_aload_n 48 rfl rfl rfl trivial ?_
        refine zr_bipush 50 (x := 60) rfl rfl (by decide) ?_
        refine zr_callv 53 (As := [_]) (u2 := (0, 0)) rfl rfl rfl rfl rfl rfl rfl (Nat.le_of_ble_eq_true rfl) (Nat.le_of_ble_eq_true rfl) (Nat.le_of_ble_eq_true rfl) rfl (c_Mran h (h0) 60) rfl (fun v2 w2 h50z => ?_)
        obtain ⟨rfl, ξ50z, rfl, x50z, f50z⟩ := h50z
        refine zr_aload_n 54 rfl rfl rfl trivial ?_
        refine zr_iload_n 55 rfl rfl rfl ?_
        refine zr_callv 58 (As := [_]) (u2 := (0, 0)) rfl rfl rfl rfl rfl rfl rfl (Nat.le_of_ble_eq_true rfl) (Nat.le_of_ble_eq_true rfl) (Nat.le_of_ble_eq_true rfl) rfl (c_MplainTells x50z ((zbeg_f 60 t).trans h0) _) rfl (fun v2 w2 h55z => ?_)
        obtain ⟨rfl, ξ55z, rfl, x55z, f55z⟩ := h55z
        refine zr_iconst 59 (x := 2) rfl rfl (by decide) ?_
        refine zr_imul 60 rfl rfl ?_
        refine zr_iret rfl rfl ?_
        rw [show ztl k a m k x t = _ from (if_neg (fun z => z.elim c5z c13z)).trans (if_pos c44z)]
        exact ⟨_, rfl, fun _ => rfl, ξ55z, rfl, x55z, f50z.tr f55z⟩
    · rw [h.2.2.2.1] at c13z
      have hk : k = 2 ∨ k = 4 := Or.inr c13z
      refine zr_aload_n 17 rfl rfl rfl trivial ?_
      refine zr_bipush 19 (x := 31) rfl rfl (by decide) ?_
      refine zr_callv 22 (As := [_]) (u2 := (0, 0)) rfl rfl rfl rfl rfl rfl rfl (Nat.le_of_ble_eq_true rfl) (Nat.le_of_ble_eq_true rfl) (Nat.le_of_ble_eq_true rfl) rfl (c_Mran h (h0) 31) rfl (fun v2 w2 h19z => ?_)
      obtain ⟨rfl, ξ19z, rfl, x19z, f19z⟩ := h19z
      refine zr_aload_n 23 rfl rfl rfl trivial ?_
      refine zr_iload_n 24 rfl rfl rfl ?_
      refine zr_callv 27 (As := [_]) (u2 := (0, 0)) rfl rfl rfl rfl rfl rfl rfl (Nat.le_of_ble_eq_true rfl) (Nat.le_of_ble_eq_true rfl) (Nat.le_of_ble_eq_true rfl) rfl (c_MplainTells x19z ((zbeg_f 31 t).trans h0) _) rfl (fun v2 w2 h24z => ?_)
      obtain ⟨rfl, ξ24z, rfl, x24z, f24z⟩ := h24z
      refine zr_istore_n 28 (L2 := [_, _, _]) rfl rfl (Nat.le_of_ble_eq_true rfl) (by first | exact trivial | exact rfl) rfl ?_
      refine zr_iload_n 29 rfl rfl rfl ?_
      refine zr_aload_n 30 rfl rfl rfl trivial ?_
      refine zr_aload_n 31 rfl rfl rfl trivial ?_
      refine zr_getf 34 rfl rfl rfl rfl rfl ?_
      rw [x24z.2.2.2.2.2.1]
      refine zr_callv 37 (As := [_]) (u2 := (0, 0)) rfl rfl rfl rfl rfl rfl rfl (Nat.le_of_ble_eq_true rfl) (Nat.le_of_ble_eq_true rfl) (Nat.le_of_ble_eq_true rfl) rfl (c_MsharesIt x24z ((ztl0_f _ _ _ _ _).trans ((zbeg_f 31 t).trans h0)) _) rfl (fun v2 w2 h34z => ?_)
      obtain ⟨v34z, rfl, g34z, ξ34z, rfl, x34z, f34z⟩ := h34z
      refine zr_iadd 38 rfl rfl ?_
      refine zr_iret rfl rfl ?_
      rw [show ztl k a m k x t = _ from if_pos hk]
      exact ⟨_, rfl, fun q => by rw [g34z q], ξ34z, rfl, x34z, (f19z.tr f24z).tr f34z⟩
