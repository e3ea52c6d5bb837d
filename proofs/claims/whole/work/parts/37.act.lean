/-! a thing's run: how many bodies, which, parted by zero -/
abbrev zT : Type := Nat × (Nat → Int32) × Int32
abbrev zXT (ξ : Nat → Nat → Int32) (k a m : Int32) (t : zT) : Prop := ξ 40 1 = nI t.1 ∧ ξ 41 = t.2.1 ∧ ξ 40 5 = t.2.2 ∧ ξ 40 2 = k ∧ ξ 40 3 = a ∧ ξ 40 4 = m ∧ t.1 ≤ 30 ∧ (t.2.2 = 0 ∨ t.2.2 = 1)
abbrev zfrT (ξ ξ2 : Nat → Nat → Int32) : Prop := ∀ b, b ≠ 40 → b ≠ 41 → ξ2 b = ξ b
def zbeg (body : Int32) (t : zT) : zT := if t.2.2 = 0 ∧ t.1 < 30 then (t.1 + 1, upd t.2.1 t.1 body, t.2.2) else t
def zwk0 (m x : Int32) (t : zT) : Int32 × zT := (x + m, zbeg 10 t)
def zwk2 (m x : Int32) (t : zT) : Int32 × zT := ((zwk0 m x (zbeg 30 t)).1 * 3, (zwk0 m x (zbeg 30 t)).2)
def zwk (as m x : Int32) (t : zT) : Int32 × zT := if as = 2 then zwk2 m x t else if as = 3 then ((zwk0 m x (zbeg 51 t)).1 - m, (zwk0 m x (zbeg 51 t)).2) else if as = 4 then (0 - (zwk2 m x (zbeg 40 t)).1, (zwk2 m x (zbeg 40 t)).2) else zwk0 m x t
def zwt0 (k m x : Int32) (t : zT) : Int32 × zT := ((zwk k m x (zbeg 11 t)).1 * 2, (zwk k m x (zbeg 11 t)).2)
def zwt (k a m as x : Int32) (t : zT) : Int32 × zT := if as = 1 ∨ as = 3 then ((zwt0 k m x (zbeg 20 t)).1 - a, (zwt0 k m x (zbeg 20 t)).2) else if as = 4 then ((zwt0 k m x (zbeg 41 t)).1 + (zwk k m m (zwt0 k m x (zbeg 41 t)).2).1, (zwk k m m (zwt0 k m x (zbeg 41 t)).2).2) else zwt0 k m x t
def zsr0 (a m x : Int32) (t : zT) : Int32 × zT := if a - m = 0 then (0, ((zbeg 12 t).1, (zbeg 12 t).2.1, 1)) else (x / (a - m), zbeg 12 t)
def zsr (k a m as x : Int32) (t : zT) : Int32 × zT := if as = 3 then ((zsr0 a m (x + 2) (zbeg 50 t)).1 ^^^ 1, (zsr0 a m (x + 2) (zbeg 50 t)).2) else if as = 5 then ((zsr0 a m x (zbeg 61 t)).1 + (zwk k m a (zsr0 a m x (zbeg 61 t)).2).1, (zwk k m a (zsr0 a m x (zbeg 61 t)).2).2) else zsr0 a m x t
def ztl0 (k a m x : Int32) (t : zT) : Int32 × zT := ((zwt k a m k x (zbeg 13 t)).1 ^^^ a, (zwt k a m k x (zbeg 13 t)).2)
def ztl (k a m as x : Int32) (t : zT) : Int32 × zT := if as = 2 ∨ as = 4 then ((ztl0 k a m x (zbeg 31 t)).1 + (zsr k a m k m (ztl0 k a m x (zbeg 31 t)).2).1, (zsr k a m k m (ztl0 k a m x (zbeg 31 t)).2).2) else if as = 5 then ((ztl0 k a m x (zbeg 60 t)).1 * 2, (ztl0 k a m x (zbeg 60 t)).2) else ztl0 k a m x t
def zans (k a m act x : Int32) (t : zT) : Int32 × zT := if act = 0 then zwk k m x t else if act = 1 then zwt k a m k x t else if act = 2 then zsr k a m k x t else ztl k a m k x t
def zactF (K : zCs) (hp tr : Nat → Int32) (x act v : Int32) : Int32 × zT := if ¬ ((0 ≤ x ∧ x < 4) ∧ 0 ≤ act ∧ act ≤ 3) then (0, (0, tr, 0)) else if zpon K hp x.toNatClampNeg = -1 then (0, (0, tr, 0)) else
  (if (zans (K.p (zpon K hp x.toNatClampNeg).toNatClampNeg 0) (K.p (zpon K hp x.toNatClampNeg).toNatClampNeg 1) (zpon K hp x.toNatClampNeg) act v (0, tr, 0)).2.2.2 = 0 then (zans (K.p (zpon K hp x.toNatClampNeg).toNatClampNeg 0) (K.p (zpon K hp x.toNatClampNeg).toNatClampNeg 1) (zpon K hp x.toNatClampNeg) act v (0, tr, 0)).1 else -15, (zans (K.p (zpon K hp x.toNatClampNeg).toNatClampNeg 0) (K.p (zpon K hp x.toNatClampNeg).toNatClampNeg 1) (zpon K hp x.toNatClampNeg) act v (0, tr, 0)).2)
set_option maxRecDepth 20000 in
set_option maxHeartbeats 1000000 in
theorem c_begin {S : Nat × (Nat → Int32)} {d n : Nat} {ξ : Nat → Nat → Int32} {ρ : zRho} {k a m : Int32} {t : zT} (h : zXT ξ k a m t) (y : Int32) : Zc S (d + 1) jX4_begin [.ref 40, .int y] (zWof n ξ ρ) (fun r w => r = none ∧ ∃ ξ2, w = zWof n ξ2 ρ ∧ zXT ξ2 k a m (zbeg y t) ∧ zfrT ξ ξ2) := by
  refine Zc_in (q := (4, 0, 0, 1, 2, 0, 0, zk_X4_begin)) rfl (Nat.le_of_ble_eq_true rfl) (L := [_, _]) rfl ?_
  refine zr_aload_n 1 rfl rfl rfl trivial ?_
  refine zr_getf 4 rfl rfl rfl rfl rfl ?_
  refine zr_if_ne 36 7 rfl rfl (by decide) (fun c4z => ?_) (fun c4z => ?_)
  · rw [h.2.2.1] at c4z
    refine zr_ret rfl rfl ?_
    refine ⟨rfl, ξ, rfl, ?_, fun _ _ _ => rfl⟩
    rw [show zbeg y t = t from if_neg (fun z => c4z z.1)]
    exact h
  · rw [h.2.2.1] at c4z
    refine zr_aload_n 8 rfl rfl rfl trivial ?_
    refine zr_getf 11 rfl rfl rfl rfl rfl ?_
    refine zr_bipush 13 (x := 30) rfl rfl (by decide) ?_
    refine zr_icmp_ge 36 16 rfl rfl (by decide) (fun c13z => ?_) (fun c13z => ?_)
    · rw [h.1, show (30 : Int32) = nI 30 from rfl, nI_leI (by have := h.2.2.2.2.2.2.1; omega) (by omega)] at c13z
      refine zr_ret rfl rfl ?_
      refine ⟨rfl, ξ, rfl, ?_, fun _ _ _ => rfl⟩
      rw [show zbeg y t = t from if_neg (fun z => by omega)]
      exact h
    · rw [h.1, show (30 : Int32) = nI 30 from rfl, nI_leI (by have := h.2.2.2.2.2.2.1; omega) (by omega)] at c13z
      refine zr_aload_n 17 rfl rfl rfl trivial ?_
      refine zr_getf 20 rfl rfl rfl rfl rfl ?_
      refine zr_aload_n 21 rfl rfl rfl trivial ?_
      refine zr_getf 24 rfl rfl rfl rfl rfl ?_
      refine zr_iload_n 25 rfl rfl rfl ?_
      rw [h.1]
      refine zr_iast 26 rfl rfl rfl (nI_clamp (by omega)) (vp_in_nI (by omega) (by omega)) (zW_set rfl) ?_
      refine zr_aload_n 27 rfl rfl rfl trivial ?_
      refine zr_dup 28 rfl rfl rfl ?_
      refine zr_getf 31 rfl rfl rfl rfl rfl ?_
      refine zr_iconst 32 (x := 1) rfl rfl (by decide) ?_
      refine zr_iadd 33 rfl rfl ?_
      refine zr_putf 36 rfl rfl rfl rfl (Nat.le_of_ble_eq_true rfl) rfl trivial (fun h => by cases h) (zW_set (k := 1) rfl) ?_
      refine zr_ret rfl rfl ?_
      refine ⟨rfl, _, rfl, ?_, fun b b1 b2 => by rw [zun b1, zun b2]⟩
      obtain ⟨q1, q2, q3, q4, q5, q6, q7, q8⟩ := h
      rw [show zbeg y t = (t.1 + 1, upd t.2.1 t.1 y, t.2.2) from if_pos ⟨c4z, by omega⟩]
      refine ⟨?_, ?_, ?_, ?_, ?_, ?_, by show t.1 + 1 ≤ 30; omega, q8⟩
      · rw [zu_same, zun (by decide), q1, nI_1]
      · rw [zun (by decide), zup, q2]
      · rw [zu_ne (Or.inr (by decide)), zun (by decide)]
        exact q3
      · rw [zu_ne (Or.inr (by decide)), zun (by decide)]
        exact q4
      · rw [zu_ne (Or.inr (by decide)), zun (by decide)]
        exact q5
      · rw [zu_ne (Or.inr (by decide)), zun (by decide)]
        exact q6
set_option maxRecDepth 20000 in
set_option maxHeartbeats 1000000 in
theorem c_forget {S : Nat × (Nat → Int32)} {d n : Nat} {ξ : Nat → Nat → Int32} {ρ : zRho}  : Zc S (d + 1) jX4_forget [.ref 40] (zWof n ξ ρ) (fun r w => r = none ∧ w = zWof n (zu (zu ξ 40 1 0) 40 5 0) ρ) := by
  refine Zc_in (q := (4, 0, 0, 0, 1, 0, 0, zk_X4_forget)) rfl (Nat.le_of_ble_eq_true rfl) (L := [_]) rfl ?_
  refine zr_aload_n 1 rfl rfl rfl trivial ?_
  refine zr_iconst 2 (x := 0) rfl rfl (by decide) ?_
  refine zr_putf 5 rfl rfl rfl rfl (Nat.le_of_ble_eq_true rfl) rfl trivial (fun h => by cases h) (zW_set (k := 1) rfl) ?_
  refine zr_aload_n 6 rfl rfl rfl trivial ?_
  refine zr_iconst 7 (x := 0) rfl rfl (by decide) ?_
  refine zr_putf 10 rfl rfl rfl rfl (Nat.le_of_ble_eq_true rfl) rfl (by first | exact Or.inl rfl | exact Or.inr rfl | assumption) (fun h => by cases h) (zW_set (k := 5) rfl) ?_
  refine zr_ret rfl rfl ?_
  exact ⟨rfl, rfl⟩
set_option maxRecDepth 20000 in
set_option maxHeartbeats 1000000 in
theorem c_become {S : Nat × (Nat → Int32)} {d n : Nat} {ξ : Nat → Nat → Int32} {ρ : zRho} {p : Nat} (hp : zisP p) (hn : p ≠ 40) (x : Int32) : Zc S (d + 1) jX4_become [.ref 40, .ref p, .int x] (zWof n ξ ρ) (fun r w => r = none ∧ w = zWof n (zu (zu (zu ξ 40 2 (ξ p 0)) 40 3 (ξ p 1)) 40 4 x) ρ) := by
  refine Zc_in (q := (4, 0, 0, 2, 3, 0, 0, zk_X4_become)) rfl (Nat.le_of_ble_eq_true rfl) (L := [_, _, _]) rfl ?_
  refine zr_aload_n 1 rfl rfl rfl trivial ?_
  refine zr_aload_n 2 rfl rfl rfl trivial ?_
  refine zr_getf 5 rfl rfl rfl (zc_pe hp) rfl ?_
  refine zr_putf 8 rfl rfl rfl rfl (Nat.le_of_ble_eq_true rfl) rfl trivial (fun h => by cases h) (zW_set (k := 2) rfl) ?_
  refine zr_aload_n 9 rfl rfl rfl trivial ?_
  refine zr_aload_n 10 rfl rfl rfl trivial ?_
  refine zr_getf 13 rfl rfl rfl (zc_pe hp) rfl ?_
  refine zr_putf 16 rfl rfl rfl rfl (Nat.le_of_ble_eq_true rfl) rfl trivial (fun h => by cases h) (zW_set (k := 3) rfl) ?_
  refine zr_aload_n 17 rfl rfl rfl trivial ?_
  refine zr_iload_n 18 rfl rfl rfl ?_
  refine zr_putf 21 rfl rfl rfl rfl (Nat.le_of_ble_eq_true rfl) rfl trivial (fun h => by cases h) (zW_set (k := 4) rfl) ?_
  refine zr_ret rfl rfl ?_
  refine ⟨rfl, ?_⟩
  show zWof n (zu (zu (zu ξ 40 2 (ξ p 0)) 40 3 (zu ξ 40 2 (ξ p 0) p 1)) 40 4 x) ρ = _
  rw [zun hn]
set_option maxRecDepth 20000 in
set_option maxHeartbeats 1000000 in
theorem c_works0 {S : Nat × (Nat → Int32)} {d n : Nat} {ξ : Nat → Nat → Int32} {ρ : zRho} {k a m : Int32} {t : zT} (h : zXT ξ k a m t) (x : Int32) : Zc S (d + 2) jX4_worksAs [.ref 40, .int 0, .int x] (zWof n ξ ρ) (fun r w => r = some (.int ((zwk0 m x t).1)) ∧ ∃ ξ2, w = zWof n ξ2 ρ ∧ zXT ξ2 k a m ((zwk0 m x t).2) ∧ zfrT ξ ξ2) := by
  refine Zc_in (q := (4, 0, 1, 2, 3, 0, 0, zk_X4_worksAs)) rfl (Nat.le_of_ble_eq_true rfl) (L := [_, _, _]) rfl ?_
  refine zr_iload_n 1 rfl rfl rfl ?_
  by_cases s1_2 : (0 : Int32) = 2
  · exact absurd s1_2 (by decide)
  by_cases s1_3 : (0 : Int32) = 3
  · exact absurd s1_3 (by decide)
  by_cases s1_4 : (0 : Int32) = 4
  · exact absurd s1_4 (by decide)
  refine zr_tsw_out 76 rfl (by have q0 := zne_i s1_2; have q1 := zne_i s1_3; have q2 := zne_i s1_4; rw [show (2 : Int32).toInt = 2 by decide] at q0; rw [show (3 : Int32).toInt = 3 by decide] at q1; rw [show (4 : Int32).toInt = 4 by decide] at q2; omega) (by decide) ?_
  refine zr_aload_n 77 rfl rfl rfl trivial ?_
  refine zr_bipush 79 (x := 10) rfl rfl (by decide) ?_
  refine zr_callv 82 (As := [_]) (u2 := (0, 0)) rfl rfl rfl rfl rfl rfl rfl (Nat.le_of_ble_eq_true rfl) (Nat.le_of_ble_eq_true rfl) (Nat.le_of_ble_eq_true rfl) rfl (c_begin h _) rfl (fun v2 w2 h79z => ?_)
  obtain ⟨rfl, ξ79z, rfl, x79z, f79z⟩ := h79z
  refine zr_iload_n 83 rfl rfl rfl ?_
  refine zr_aload_n 84 rfl rfl rfl trivial ?_
  refine zr_getf 87 rfl rfl rfl rfl rfl ?_
  refine zr_iadd 88 rfl rfl ?_
  refine zr_iret rfl rfl ?_
  exact ⟨by rw [x79z.2.2.2.2.2.1]; rfl, ξ79z, rfl, x79z, f79z⟩
set_option maxRecDepth 20000 in
set_option maxHeartbeats 1000000 in
theorem c_works1 {S : Nat × (Nat → Int32)} {d n : Nat} {ξ : Nat → Nat → Int32} {ρ : zRho} {k a m : Int32} {t : zT} (h : zXT ξ k a m t) (x : Int32) : Zc S (d + 2) jX4_worksAs [.ref 40, .int 1, .int x] (zWof n ξ ρ) (fun r w => r = some (.int ((zwk0 m x t).1)) ∧ ∃ ξ2, w = zWof n ξ2 ρ ∧ zXT ξ2 k a m ((zwk0 m x t).2) ∧ zfrT ξ ξ2) := by
  refine Zc_in (q := (4, 0, 1, 2, 3, 0, 0, zk_X4_worksAs)) rfl (Nat.le_of_ble_eq_true rfl) (L := [_, _, _]) rfl ?_
  refine zr_iload_n 1 rfl rfl rfl ?_
  by_cases s1_2 : (1 : Int32) = 2
  · exact absurd s1_2 (by decide)
  by_cases s1_3 : (1 : Int32) = 3
  · exact absurd s1_3 (by decide)
  by_cases s1_4 : (1 : Int32) = 4
  · exact absurd s1_4 (by decide)
  refine zr_tsw_out 76 rfl (by have q0 := zne_i s1_2; have q1 := zne_i s1_3; have q2 := zne_i s1_4; rw [show (2 : Int32).toInt = 2 by decide] at q0; rw [show (3 : Int32).toInt = 3 by decide] at q1; rw [show (4 : Int32).toInt = 4 by decide] at q2; omega) (by decide) ?_
  refine zr_aload_n 77 rfl rfl rfl trivial ?_
  refine zr_bipush 79 (x := 10) rfl rfl (by decide) ?_
  refine zr_callv 82 (As := [_]) (u2 := (0, 0)) rfl rfl rfl rfl rfl rfl rfl (Nat.le_of_ble_eq_true rfl) (Nat.le_of_ble_eq_true rfl) (Nat.le_of_ble_eq_true rfl) rfl (c_begin h _) rfl (fun v2 w2 h79z => ?_)
  obtain ⟨rfl, ξ79z, rfl, x79z, f79z⟩ := h79z
  refine zr_iload_n 83 rfl rfl rfl ?_
  refine zr_aload_n 84 rfl rfl rfl trivial ?_
  refine zr_getf 87 rfl rfl rfl rfl rfl ?_
  refine zr_iadd 88 rfl rfl ?_
  refine zr_iret rfl rfl ?_
  exact ⟨by rw [x79z.2.2.2.2.2.1]; rfl, ξ79z, rfl, x79z, f79z⟩
set_option maxRecDepth 20000 in
set_option maxHeartbeats 1000000 in
theorem c_works2 {S : Nat × (Nat → Int32)} {d n : Nat} {ξ : Nat → Nat → Int32} {ρ : zRho} {k a m : Int32} {t : zT} (h : zXT ξ k a m t) (x : Int32) : Zc S (d + 3) jX4_worksAs [.ref 40, .int 2, .int x] (zWof n ξ ρ) (fun r w => r = some (.int ((zwk2 m x t).1)) ∧ ∃ ξ2, w = zWof n ξ2 ρ ∧ zXT ξ2 k a m ((zwk2 m x t).2) ∧ zfrT ξ ξ2) := by
  refine Zc_in (q := (4, 0, 1, 2, 3, 0, 0, zk_X4_worksAs)) rfl (Nat.le_of_ble_eq_true rfl) (L := [_, _, _]) rfl ?_
  refine zr_iload_n 1 rfl rfl rfl ?_
  by_cases s1_2 : (2 : Int32) = 2
  · refine zr_tsw_in 28 0 rfl (by rw [s1_2]; decide) (by decide) rfl (by decide) ?_
    refine zr_aload_n 29 rfl rfl rfl trivial ?_
    refine zr_bipush 31 (x := 30) rfl rfl (by decide) ?_
    refine zr_callv 34 (As := [_]) (u2 := (0, 0)) rfl rfl rfl rfl rfl rfl rfl (Nat.le_of_ble_eq_true rfl) (Nat.le_of_ble_eq_true rfl) (Nat.le_of_ble_eq_true rfl) rfl (c_begin h _) rfl (fun v2 w2 h31z => ?_)
    obtain ⟨rfl, ξ31z, rfl, x31z, f31z⟩ := h31z
    refine zr_aload_n 35 rfl rfl rfl trivial ?_
    refine zr_iconst 36 (x := 0) rfl rfl (by decide) ?_
    refine zr_iload_n 37 rfl rfl rfl ?_
    refine zr_callv 40 (As := [_, _]) (u2 := (0, 0)) rfl rfl rfl rfl rfl rfl rfl (Nat.le_of_ble_eq_true rfl) (Nat.le_of_ble_eq_true rfl) (Nat.le_of_ble_eq_true rfl) rfl (c_works0 x31z _) rfl (fun v2 w2 h37z => ?_)
    obtain ⟨rfl, ξ37z, rfl, x37z, f37z⟩ := h37z
    refine zr_iconst 41 (x := 3) rfl rfl (by decide) ?_
    refine zr_imul 42 rfl rfl ?_
    refine zr_iret rfl rfl ?_
    exact ⟨rfl, ξ37z, rfl, x37z, fun b b1 b2 => by rw [f37z b b1 b2, f31z b b1 b2]⟩
  by_cases s1_3 : (2 : Int32) = 3
  · exact absurd s1_3 (by decide)
  by_cases s1_4 : (2 : Int32) = 4
  · exact absurd s1_4 (by decide)
  exact absurd rfl s1_2
set_option maxRecDepth 20000 in
set_option maxHeartbeats 1000000 in
theorem c_works {S : Nat × (Nat → Int32)} {d n : Nat} {ξ : Nat → Nat → Int32} {ρ : zRho} {k a m : Int32} {t : zT} (h : zXT ξ k a m t) (as x : Int32) : Zc S (d + 4) jX4_worksAs [.ref 40, .int as, .int x] (zWof n ξ ρ) (fun r w => r = some (.int ((zwk as m x t).1)) ∧ ∃ ξ2, w = zWof n ξ2 ρ ∧ zXT ξ2 k a m ((zwk as m x t).2) ∧ zfrT ξ ξ2) := by
  refine Zc_in (q := (4, 0, 1, 2, 3, 0, 0, zk_X4_worksAs)) rfl (Nat.le_of_ble_eq_true rfl) (L := [_, _, _]) rfl ?_
  refine zr_iload_n 1 rfl rfl rfl ?_
  by_cases s1_2 : as = 2
  · refine zr_tsw_in 28 0 rfl (by rw [s1_2]; decide) (by decide) rfl (by decide) ?_
    subst s1_2
    rw [show zwk 2 m x t = zwk2 m x t from rfl]
    refine zr_aload_n 29 rfl rfl rfl trivial ?_
    refine zr_bipush 31 (x := 30) rfl rfl (by decide) ?_
    refine zr_callv 34 (As := [_]) (u2 := (0, 0)) rfl rfl rfl rfl rfl rfl rfl (Nat.le_of_ble_eq_true rfl) (Nat.le_of_ble_eq_true rfl) (Nat.le_of_ble_eq_true rfl) rfl (c_begin h _) rfl (fun v2 w2 h31z => ?_)
    obtain ⟨rfl, ξ31z, rfl, x31z, f31z⟩ := h31z
    refine zr_aload_n 35 rfl rfl rfl trivial ?_
    refine zr_iconst 36 (x := 0) rfl rfl (by decide) ?_
    refine zr_iload_n 37 rfl rfl rfl ?_
    refine zr_callv 40 (As := [_, _]) (u2 := (0, 0)) rfl rfl rfl rfl rfl rfl rfl (Nat.le_of_ble_eq_true rfl) (Nat.le_of_ble_eq_true rfl) (Nat.le_of_ble_eq_true rfl) rfl (c_works0 x31z _) rfl (fun v2 w2 h37z => ?_)
    obtain ⟨rfl, ξ37z, rfl, x37z, f37z⟩ := h37z
    refine zr_iconst 41 (x := 3) rfl rfl (by decide) ?_
    refine zr_imul 42 rfl rfl ?_
    refine zr_iret rfl rfl ?_
    exact ⟨rfl, ξ37z, rfl, x37z, fun b b1 b2 => by rw [f37z b b1 b2, f31z b b1 b2]⟩
  by_cases s1_3 : as = 3
  · refine zr_tsw_in 58 1 rfl (by rw [s1_3]; decide) (by decide) rfl (by decide) ?_
    subst s1_3
    rw [show zwk 3 m x t = ((zwk0 m x (zbeg 51 t)).1 - m, (zwk0 m x (zbeg 51 t)).2) from rfl]
    refine zr_aload_n 59 rfl rfl rfl trivial ?_
    refine zr_bipush 61 (x := 51) rfl rfl (by decide) ?_
    refine zr_callv 64 (As := [_]) (u2 := (0, 0)) rfl rfl rfl rfl rfl rfl rfl (Nat.le_of_ble_eq_true rfl) (Nat.le_of_ble_eq_true rfl) (Nat.le_of_ble_eq_true rfl) rfl (c_begin h _) rfl (fun v2 w2 h61z => ?_)
    obtain ⟨rfl, ξ61z, rfl, x61z, f61z⟩ := h61z
    refine zr_aload_n 65 rfl rfl rfl trivial ?_
    refine zr_iconst 66 (x := 1) rfl rfl (by decide) ?_
    refine zr_iload_n 67 rfl rfl rfl ?_
    refine zr_callv 70 (As := [_, _]) (u2 := (0, 0)) rfl rfl rfl rfl rfl rfl rfl (Nat.le_of_ble_eq_true rfl) (Nat.le_of_ble_eq_true rfl) (Nat.le_of_ble_eq_true rfl) rfl (c_works1 x61z _) rfl (fun v2 w2 h67z => ?_)
    obtain ⟨rfl, ξ67z, rfl, x67z, f67z⟩ := h67z
    refine zr_aload_n 71 rfl rfl rfl trivial ?_
    refine zr_getf 74 rfl rfl rfl rfl rfl ?_
    refine zr_isub 75 rfl rfl ?_
    refine zr_iret rfl rfl ?_
    exact ⟨by rw [x67z.2.2.2.2.2.1], ξ67z, rfl, x67z, fun b b1 b2 => by rw [f67z b b1 b2, f61z b b1 b2]⟩
  by_cases s1_4 : as = 4
  · refine zr_tsw_in 43 2 rfl (by rw [s1_4]; decide) (by decide) rfl (by decide) ?_
    subst s1_4
    rw [show zwk 4 m x t = (0 - (zwk2 m x (zbeg 40 t)).1, (zwk2 m x (zbeg 40 t)).2) from rfl]
    refine zr_aload_n 44 rfl rfl rfl trivial ?_
    refine zr_bipush 46 (x := 40) rfl rfl (by decide) ?_
    refine zr_callv 49 (As := [_]) (u2 := (0, 0)) rfl rfl rfl rfl rfl rfl rfl (Nat.le_of_ble_eq_true rfl) (Nat.le_of_ble_eq_true rfl) (Nat.le_of_ble_eq_true rfl) rfl (c_begin h _) rfl (fun v2 w2 h46z => ?_)
    obtain ⟨rfl, ξ46z, rfl, x46z, f46z⟩ := h46z
    refine zr_iconst 50 (x := 0) rfl rfl (by decide) ?_
    refine zr_aload_n 51 rfl rfl rfl trivial ?_
    refine zr_iconst 52 (x := 2) rfl rfl (by decide) ?_
    refine zr_iload_n 53 rfl rfl rfl ?_
    refine zr_callv 56 (As := [_, _]) (u2 := (0, 0)) rfl rfl rfl rfl rfl rfl rfl (Nat.le_of_ble_eq_true rfl) (Nat.le_of_ble_eq_true rfl) (Nat.le_of_ble_eq_true rfl) rfl (c_works2 x46z _) rfl (fun v2 w2 h53z => ?_)
    obtain ⟨rfl, ξ53z, rfl, x53z, f53z⟩ := h53z
    refine zr_isub 57 rfl rfl ?_
    refine zr_iret rfl rfl ?_
    exact ⟨rfl, ξ53z, rfl, x53z, fun b b1 b2 => by rw [f53z b b1 b2, f46z b b1 b2]⟩
  refine zr_tsw_out 76 rfl (by have q0 := zne_i s1_2; have q1 := zne_i s1_3; have q2 := zne_i s1_4; rw [show (2 : Int32).toInt = 2 by decide] at q0; rw [show (3 : Int32).toInt = 3 by decide] at q1; rw [show (4 : Int32).toInt = 4 by decide] at q2; omega) (by decide) ?_
  rw [show zwk as m x t = zwk0 m x t from (if_neg s1_2).trans ((if_neg s1_3).trans (if_neg s1_4))]
  refine zr_aload_n 77 rfl rfl rfl trivial ?_
  refine zr_bipush 79 (x := 10) rfl rfl (by decide) ?_
  refine zr_callv 82 (As := [_]) (u2 := (0, 0)) rfl rfl rfl rfl rfl rfl rfl (Nat.le_of_ble_eq_true rfl) (Nat.le_of_ble_eq_true rfl) (Nat.le_of_ble_eq_true rfl) rfl (c_begin h _) rfl (fun v2 w2 h79z => ?_)
  obtain ⟨rfl, ξ79z, rfl, x79z, f79z⟩ := h79z
  refine zr_iload_n 83 rfl rfl rfl ?_
  refine zr_aload_n 84 rfl rfl rfl trivial ?_
  refine zr_getf 87 rfl rfl rfl rfl rfl ?_
  refine zr_iadd 88 rfl rfl ?_
  refine zr_iret rfl rfl ?_
  exact ⟨by rw [x79z.2.2.2.2.2.1]; rfl, ξ79z, rfl, x79z, f79z⟩
set_option maxRecDepth 20000 in
set_option maxHeartbeats 1000000 in
theorem c_waits0 {S : Nat × (Nat → Int32)} {d n : Nat} {ξ : Nat → Nat → Int32} {ρ : zRho} {k a m : Int32} {t : zT} (h : zXT ξ k a m t) (x : Int32) : Zc S (d + 5) jX4_waitsAs [.ref 40, .int 0, .int x] (zWof n ξ ρ) (fun r w => r = some (.int ((zwt0 k m x t).1)) ∧ ∃ ξ2, w = zWof n ξ2 ρ ∧ zXT ξ2 k a m ((zwt0 k m x t).2) ∧ zfrT ξ ξ2) := by
  refine Zc_in (q := (4, 0, 1, 2, 3, 0, 0, zk_X4_waitsAs)) rfl (Nat.le_of_ble_eq_true rfl) (L := [_, _, _]) rfl ?_
  refine zr_iload_n 1 rfl rfl rfl ?_
  by_cases s1_1 : (0 : Int32) = 1
  · exact absurd s1_1 (by decide)
  by_cases s1_2 : (0 : Int32) = 2
  · exact absurd s1_2 (by decide)
  by_cases s1_3 : (0 : Int32) = 3
  · exact absurd s1_3 (by decide)
  by_cases s1_4 : (0 : Int32) = 4
  · exact absurd s1_4 (by decide)
  refine zr_tsw_out 76 rfl (by have q0 := zne_i s1_1; have q1 := zne_i s1_2; have q2 := zne_i s1_3; have q3 := zne_i s1_4; rw [show (1 : Int32).toInt = 1 by decide] at q0; rw [show (2 : Int32).toInt = 2 by decide] at q1; rw [show (3 : Int32).toInt = 3 by decide] at q2; rw [show (4 : Int32).toInt = 4 by decide] at q3; omega) (by decide) ?_
  refine zr_aload_n 77 rfl rfl rfl trivial ?_
  refine zr_bipush 79 (x := 11) rfl rfl (by decide) ?_
  refine zr_callv 82 (As := [_]) (u2 := (0, 0)) rfl rfl rfl rfl rfl rfl rfl (Nat.le_of_ble_eq_true rfl) (Nat.le_of_ble_eq_true rfl) (Nat.le_of_ble_eq_true rfl) rfl (c_begin h _) rfl (fun v2 w2 h79z => ?_)
  obtain ⟨rfl, ξ79z, rfl, x79z, f79z⟩ := h79z
  refine zr_aload_n 83 rfl rfl rfl trivial ?_
  refine zr_aload_n 84 rfl rfl rfl trivial ?_
  refine zr_getf 87 rfl rfl rfl rfl rfl ?_
  refine zr_iload_n 88 rfl rfl rfl ?_
  rw [x79z.2.2.2.1]
  refine zr_callv 91 (As := [_, _]) (u2 := (0, 0)) rfl rfl rfl rfl rfl rfl rfl (Nat.le_of_ble_eq_true rfl) (Nat.le_of_ble_eq_true rfl) (Nat.le_of_ble_eq_true rfl) rfl (c_works x79z _ _) rfl (fun v2 w2 h88z => ?_)
  obtain ⟨rfl, ξ88z, rfl, x88z, f88z⟩ := h88z
  refine zr_iconst 92 (x := 2) rfl rfl (by decide) ?_
  refine zr_imul 93 rfl rfl ?_
  refine zr_iret rfl rfl ?_
  exact ⟨rfl, ξ88z, rfl, x88z, fun b b1 b2 => by rw [f88z b b1 b2, f79z b b1 b2]⟩
set_option maxRecDepth 20000 in
set_option maxHeartbeats 1000000 in
theorem c_waits2 {S : Nat × (Nat → Int32)} {d n : Nat} {ξ : Nat → Nat → Int32} {ρ : zRho} {k a m : Int32} {t : zT} (h : zXT ξ k a m t) (x : Int32) : Zc S (d + 5) jX4_waitsAs [.ref 40, .int 2, .int x] (zWof n ξ ρ) (fun r w => r = some (.int ((zwt0 k m x t).1)) ∧ ∃ ξ2, w = zWof n ξ2 ρ ∧ zXT ξ2 k a m ((zwt0 k m x t).2) ∧ zfrT ξ ξ2) := by
  refine Zc_in (q := (4, 0, 1, 2, 3, 0, 0, zk_X4_waitsAs)) rfl (Nat.le_of_ble_eq_true rfl) (L := [_, _, _]) rfl ?_
  refine zr_iload_n 1 rfl rfl rfl ?_
  by_cases s1_1 : (2 : Int32) = 1
  · exact absurd s1_1 (by decide)
  by_cases s1_2 : (2 : Int32) = 2
  · refine zr_tsw_in 76 1 rfl (by rw [s1_2]; decide) (by decide) rfl (by decide) ?_
    refine zr_aload_n 77 rfl rfl rfl trivial ?_
    refine zr_bipush 79 (x := 11) rfl rfl (by decide) ?_
    refine zr_callv 82 (As := [_]) (u2 := (0, 0)) rfl rfl rfl rfl rfl rfl rfl (Nat.le_of_ble_eq_true rfl) (Nat.le_of_ble_eq_true rfl) (Nat.le_of_ble_eq_true rfl) rfl (c_begin h _) rfl (fun v2 w2 h79z => ?_)
    obtain ⟨rfl, ξ79z, rfl, x79z, f79z⟩ := h79z
    refine zr_aload_n 83 rfl rfl rfl trivial ?_
    refine zr_aload_n 84 rfl rfl rfl trivial ?_
    refine zr_getf 87 rfl rfl rfl rfl rfl ?_
    refine zr_iload_n 88 rfl rfl rfl ?_
    rw [x79z.2.2.2.1]
    refine zr_callv 91 (As := [_, _]) (u2 := (0, 0)) rfl rfl rfl rfl rfl rfl rfl (Nat.le_of_ble_eq_true rfl) (Nat.le_of_ble_eq_true rfl) (Nat.le_of_ble_eq_true rfl) rfl (c_works x79z _ _) rfl (fun v2 w2 h88z => ?_)
    obtain ⟨rfl, ξ88z, rfl, x88z, f88z⟩ := h88z
    refine zr_iconst 92 (x := 2) rfl rfl (by decide) ?_
    refine zr_imul 93 rfl rfl ?_
    refine zr_iret rfl rfl ?_
    exact ⟨rfl, ξ88z, rfl, x88z, fun b b1 b2 => by rw [f88z b b1 b2, f79z b b1 b2]⟩
  by_cases s1_3 : (2 : Int32) = 3
  · exact absurd s1_3 (by decide)
  by_cases s1_4 : (2 : Int32) = 4
  · exact absurd s1_4 (by decide)
  exact absurd rfl s1_2
set_option maxRecDepth 20000 in
set_option maxHeartbeats 1000000 in
theorem c_waits {S : Nat × (Nat → Int32)} {d n : Nat} {ξ : Nat → Nat → Int32} {ρ : zRho} {k a m : Int32} {t : zT} (h : zXT ξ k a m t) (as x : Int32) : Zc S (d + 6) jX4_waitsAs [.ref 40, .int as, .int x] (zWof n ξ ρ) (fun r w => r = some (.int ((zwt k a m as x t).1)) ∧ ∃ ξ2, w = zWof n ξ2 ρ ∧ zXT ξ2 k a m ((zwt k a m as x t).2) ∧ zfrT ξ ξ2) := by
  refine Zc_in (q := (4, 0, 1, 2, 3, 0, 0, zk_X4_waitsAs)) rfl (Nat.le_of_ble_eq_true rfl) (L := [_, _, _]) rfl ?_
  refine zr_iload_n 1 rfl rfl rfl ?_
  by_cases s1_1 : as = 1
  · refine zr_tsw_in 32 0 rfl (by rw [s1_1]; decide) (by decide) rfl (by decide) ?_
    rw [show zwt k a m as x t = ((zwt0 k m x (zbeg 20 t)).1 - a, (zwt0 k m x (zbeg 20 t)).2) from if_pos (Or.inl s1_1)]
    refine zr_aload_n 33 rfl rfl rfl trivial ?_
    refine zr_bipush 35 (x := 20) rfl rfl (by decide) ?_
    refine zr_callv 38 (As := [_]) (u2 := (0, 0)) rfl rfl rfl rfl rfl rfl rfl (Nat.le_of_ble_eq_true rfl) (Nat.le_of_ble_eq_true rfl) (Nat.le_of_ble_eq_true rfl) rfl (c_begin h _) rfl (fun v2 w2 h35z => ?_)
    obtain ⟨rfl, ξ35z, rfl, x35z, f35z⟩ := h35z
    refine zr_aload_n 39 rfl rfl rfl trivial ?_
    refine zr_iconst 40 (x := 0) rfl rfl (by decide) ?_
    refine zr_iload_n 41 rfl rfl rfl ?_
    refine zr_callv 44 (As := [_, _]) (u2 := (0, 0)) rfl rfl rfl rfl rfl rfl rfl (Nat.le_of_ble_eq_true rfl) (Nat.le_of_ble_eq_true rfl) (Nat.le_of_ble_eq_true rfl) rfl (c_waits0 x35z _) rfl (fun v2 w2 h41z => ?_)
    obtain ⟨rfl, ξ41z, rfl, x41z, f41z⟩ := h41z
    refine zr_aload_n 45 rfl rfl rfl trivial ?_
    refine zr_getf 48 rfl rfl rfl rfl rfl ?_
    refine zr_isub 49 rfl rfl ?_
    refine zr_iret rfl rfl ?_
    exact ⟨by rw [x41z.2.2.2.2.1], ξ41z, rfl, x41z, fun b b1 b2 => by rw [f41z b b1 b2, f35z b b1 b2]⟩
  by_cases s1_2 : as = 2
  · refine zr_tsw_in 76 1 rfl (by rw [s1_2]; decide) (by decide) rfl (by decide) ?_
    rw [show zwt k a m as x t = zwt0 k m x t from (if_neg (by rintro (z | z) <;> simp_all)).trans (if_neg (by simp_all))]
    refine zr_aload_n 77 rfl rfl rfl trivial ?_
    refine zr_bipush 79 (x := 11) rfl rfl (by decide) ?_
    refine zr_callv 82 (As := [_]) (u2 := (0, 0)) rfl rfl rfl rfl rfl rfl rfl (Nat.le_of_ble_eq_true rfl) (Nat.le_of_ble_eq_true rfl) (Nat.le_of_ble_eq_true rfl) rfl (c_begin h _) rfl (fun v2 w2 h79z => ?_)
    obtain ⟨rfl, ξ79z, rfl, x79z, f79z⟩ := h79z
    refine zr_aload_n 83 rfl rfl rfl trivial ?_
    refine zr_aload_n 84 rfl rfl rfl trivial ?_
    refine zr_getf 87 rfl rfl rfl rfl rfl ?_
    refine zr_iload_n 88 rfl rfl rfl ?_
    rw [x79z.2.2.2.1]
    refine zr_callv 91 (As := [_, _]) (u2 := (0, 0)) rfl rfl rfl rfl rfl rfl rfl (Nat.le_of_ble_eq_true rfl) (Nat.le_of_ble_eq_true rfl) (Nat.le_of_ble_eq_true rfl) rfl (c_works x79z _ _) rfl (fun v2 w2 h88z => ?_)
    obtain ⟨rfl, ξ88z, rfl, x88z, f88z⟩ := h88z
    refine zr_iconst 92 (x := 2) rfl rfl (by decide) ?_
    refine zr_imul 93 rfl rfl ?_
    refine zr_iret rfl rfl ?_
    exact ⟨rfl, ξ88z, rfl, x88z, fun b b1 b2 => by rw [f88z b b1 b2, f79z b b1 b2]⟩
  by_cases s1_3 : as = 3
  · refine zr_tsw_in 32 2 rfl (by rw [s1_3]; decide) (by decide) rfl (by decide) ?_
    rw [show zwt k a m as x t = ((zwt0 k m x (zbeg 20 t)).1 - a, (zwt0 k m x (zbeg 20 t)).2) from if_pos (Or.inr s1_3)]
    refine zr_aload_n 33 rfl rfl rfl trivial ?_
    refine zr_bipush 35 (x := 20) rfl rfl (by decide) ?_
    refine zr_callv 38 (As := [_]) (u2 := (0, 0)) rfl rfl rfl rfl rfl rfl rfl (Nat.le_of_ble_eq_true rfl) (Nat.le_of_ble_eq_true rfl) (Nat.le_of_ble_eq_true rfl) rfl (c_begin h _) rfl (fun v2 w2 h35z => ?_)
    obtain ⟨rfl, ξ35z, rfl, x35z, f35z⟩ := h35z
    refine zr_aload_n 39 rfl rfl rfl trivial ?_
    refine zr_iconst 40 (x := 0) rfl rfl (by decide) ?_
    refine zr_iload_n 41 rfl rfl rfl ?_
    refine zr_callv 44 (As := [_, _]) (u2 := (0, 0)) rfl rfl rfl rfl rfl rfl rfl (Nat.le_of_ble_eq_true rfl) (Nat.le_of_ble_eq_true rfl) (Nat.le_of_ble_eq_true rfl) rfl (c_waits0 x35z _) rfl (fun v2 w2 h41z => ?_)
    obtain ⟨rfl, ξ41z, rfl, x41z, f41z⟩ := h41z
    refine zr_aload_n 45 rfl rfl rfl trivial ?_
    refine zr_getf 48 rfl rfl rfl rfl rfl ?_
    refine zr_isub 49 rfl rfl ?_
    refine zr_iret rfl rfl ?_
    exact ⟨by rw [x41z.2.2.2.2.1], ξ41z, rfl, x41z, fun b b1 b2 => by rw [f41z b b1 b2, f35z b b1 b2]⟩
  by_cases s1_4 : as = 4
  · refine zr_tsw_in 50 3 rfl (by rw [s1_4]; decide) (by decide) rfl (by decide) ?_
    rw [show zwt k a m as x t = ((zwt0 k m x (zbeg 41 t)).1 + (zwk k m m (zwt0 k m x (zbeg 41 t)).2).1, (zwk k m m (zwt0 k m x (zbeg 41 t)).2).2) from (if_neg (by rintro (z | z) <;> simp_all)).trans (if_pos s1_4)]
    refine zr_aload_n 51 rfl rfl rfl trivial ?_
    refine zr_bipush 53 (x := 41) rfl rfl (by decide) ?_
    refine zr_callv 56 (As := [_]) (u2 := (0, 0)) rfl rfl rfl rfl rfl rfl rfl (Nat.le_of_ble_eq_true rfl) (Nat.le_of_ble_eq_true rfl) (Nat.le_of_ble_eq_true rfl) rfl (c_begin h _) rfl (fun v2 w2 h53z => ?_)
    obtain ⟨rfl, ξ53z, rfl, x53z, f53z⟩ := h53z
    refine zr_aload_n 57 rfl rfl rfl trivial ?_
    refine zr_iconst 58 (x := 2) rfl rfl (by decide) ?_
    refine zr_iload_n 59 rfl rfl rfl ?_
    refine zr_callv 62 (As := [_, _]) (u2 := (0, 0)) rfl rfl rfl rfl rfl rfl rfl (Nat.le_of_ble_eq_true rfl) (Nat.le_of_ble_eq_true rfl) (Nat.le_of_ble_eq_true rfl) rfl (c_waits2 x53z _) rfl (fun v2 w2 h59z => ?_)
    obtain ⟨rfl, ξ59z, rfl, x59z, f59z⟩ := h59z
    refine zr_aload_n 63 rfl rfl rfl trivial ?_
    refine zr_aload_n 64 rfl rfl rfl trivial ?_
    refine zr_getf 67 rfl rfl rfl rfl rfl ?_
    refine zr_aload_n 68 rfl rfl rfl trivial ?_
    refine zr_getf 71 rfl rfl rfl rfl rfl ?_
    rw [x59z.2.2.2.1, x59z.2.2.2.2.2.1]
    refine zr_callv 74 (As := [_, _]) (u2 := (0, 0)) rfl rfl rfl rfl rfl rfl rfl (Nat.le_of_ble_eq_true rfl) (Nat.le_of_ble_eq_true rfl) (Nat.le_of_ble_eq_true rfl) rfl (c_works x59z _ _) rfl (fun v2 w2 h71z => ?_)
    obtain ⟨rfl, ξ71z, rfl, x71z, f71z⟩ := h71z
    refine zr_iadd 75 rfl rfl ?_
    refine zr_iret rfl rfl ?_
    exact ⟨rfl, ξ71z, rfl, x71z, fun b b1 b2 => by rw [f71z b b1 b2, f59z b b1 b2, f53z b b1 b2]⟩
  refine zr_tsw_out 76 rfl (by have q0 := zne_i s1_1; have q1 := zne_i s1_2; have q2 := zne_i s1_3; have q3 := zne_i s1_4; rw [show (1 : Int32).toInt = 1 by decide] at q0; rw [show (2 : Int32).toInt = 2 by decide] at q1; rw [show (3 : Int32).toInt = 3 by decide] at q2; rw [show (4 : Int32).toInt = 4 by decide] at q3; omega) (by decide) ?_
  rw [show zwt k a m as x t = zwt0 k m x t from (if_neg (by rintro (z | z) <;> simp_all)).trans (if_neg (by simp_all))]
  refine zr_aload_n 77 rfl rfl rfl trivial ?_
  refine zr_bipush 79 (x := 11) rfl rfl (by decide) ?_
  refine zr_callv 82 (As := [_]) (u2 := (0, 0)) rfl rfl rfl rfl rfl rfl rfl (Nat.le_of_ble_eq_true rfl) (Nat.le_of_ble_eq_true rfl) (Nat.le_of_ble_eq_true rfl) rfl (c_begin h _) rfl (fun v2 w2 h79z => ?_)
  obtain ⟨rfl, ξ79z, rfl, x79z, f79z⟩ := h79z
  refine zr_aload_n 83 rfl rfl rfl trivial ?_
  refine zr_aload_n 84 rfl rfl rfl trivial ?_
  refine zr_getf 87 rfl rfl rfl rfl rfl ?_
  refine zr_iload_n 88 rfl rfl rfl ?_
  rw [x79z.2.2.2.1]
  refine zr_callv 91 (As := [_, _]) (u2 := (0, 0)) rfl rfl rfl rfl rfl rfl rfl (Nat.le_of_ble_eq_true rfl) (Nat.le_of_ble_eq_true rfl) (Nat.le_of_ble_eq_true rfl) rfl (c_works x79z _ _) rfl (fun v2 w2 h88z => ?_)
  obtain ⟨rfl, ξ88z, rfl, x88z, f88z⟩ := h88z
  refine zr_iconst 92 (x := 2) rfl rfl (by decide) ?_
  refine zr_imul 93 rfl rfl ?_
  refine zr_iret rfl rfl ?_
  exact ⟨rfl, ξ88z, rfl, x88z, fun b b1 b2 => by rw [f88z b b1 b2, f79z b b1 b2]⟩
set_option maxRecDepth 20000 in
set_option maxHeartbeats 1000000 in
theorem c_partedBy {S : Nat × (Nat → Int32)} {d n : Nat} {ξ : Nat → Nat → Int32} {ρ : zRho} {k a m : Int32} {t : zT} (h : zXT ξ k a m t) (x y : Int32) : Zc S (d + 1) jX4_partedBy [.ref 40, .int x, .int y] (zWof n ξ ρ) (fun r w => r = some (.int (if y = 0 then 0 else x / y)) ∧ ∃ ξ2, w = zWof n ξ2 ρ ∧ zXT ξ2 k a m (if y = 0 then (t.1, t.2.1, 1) else t) ∧ zfrT ξ ξ2) := by
  refine Zc_in (q := (4, 0, 1, 2, 3, 0, 0, zk_X4_partedBy)) rfl (Nat.le_of_ble_eq_true rfl) (L := [_, _, _]) rfl ?_
  refine zr_iload_n 1 rfl rfl rfl ?_
  refine zr_if_ne 11 4 rfl rfl (by decide) (fun c1z => ?_) (fun c1z => ?_)
  · refine zr_iload_n 12 rfl rfl rfl ?_
    refine zr_iload_n 13 rfl rfl rfl ?_
    refine zr_idiv 14 rfl rfl (by assumption) ?_
    refine zr_iret rfl rfl ?_
    exact ⟨by rw [if_neg c1z], ξ, rfl, by rw [if_neg c1z]; exact h, fun _ _ _ => rfl⟩
  · refine zr_aload_n 5 rfl rfl rfl trivial ?_
    refine zr_iconst 6 (x := 1) rfl rfl (by decide) ?_
    refine zr_putf 9 rfl rfl rfl rfl (Nat.le_of_ble_eq_true rfl) rfl (by first | exact Or.inl rfl | exact Or.inr rfl | assumption) (fun h => by cases h) (zW_set (k := 5) rfl) ?_
    refine zr_iconst 10 (x := 0) rfl rfl (by decide) ?_
    refine zr_iret rfl rfl ?_
    refine ⟨by rw [if_pos c1z], _, rfl, ?_, fun b b1 b2 => zun b1⟩
    rw [if_pos c1z]
    obtain ⟨q1, q2, q3, q4, q5, q6, q7, q8⟩ := h
    refine ⟨?_, ?_, zu_same _ _ _ _, ?_, ?_, ?_, q7, Or.inr rfl⟩
    · rw [zu_ne (Or.inr (by decide))]; exact q1
    · rw [zun (by decide)]; exact q2
    · rw [zu_ne (Or.inr (by decide))]; exact q4
    · rw [zu_ne (Or.inr (by decide))]; exact q5
    · rw [zu_ne (Or.inr (by decide))]; exact q6
set_option maxRecDepth 20000 in
set_option maxHeartbeats 1000000 in
theorem c_shares0 {S : Nat × (Nat → Int32)} {d n : Nat} {ξ : Nat → Nat → Int32} {ρ : zRho} {k a m : Int32} {t : zT} (h : zXT ξ k a m t) (x : Int32) : Zc S (d + 2) jX4_sharesAs [.ref 40, .int 0, .int x] (zWof n ξ ρ) (fun r w => r = some (.int ((zsr0 a m x t).1)) ∧ ∃ ξ2, w = zWof n ξ2 ρ ∧ zXT ξ2 k a m ((zsr0 a m x t).2) ∧ zfrT ξ ξ2) := by
  refine Zc_in (q := (4, 0, 1, 2, 3, 0, 0, zk_X4_sharesAs)) rfl (Nat.le_of_ble_eq_true rfl) (L := [_, _, _]) rfl ?_
  refine zr_iload_n 1 rfl rfl rfl ?_
  by_cases s1_3 : (0 : Int32) = 3
  · exact absurd s1_3 (by decide)
  by_cases s1_5 : (0 : Int32) = 5
  · exact absurd s1_5 (by decide)
  refine zr_lsw 71 (off := 70) rfl rfl (by rw [lv_osw s1_3 (by decide), lv_osw s1_5 (by decide)] <;> rfl) (by decide) ?_
  refine zr_aload_n 72 rfl rfl rfl trivial ?_
  refine zr_bipush 74 (x := 12) rfl rfl (by decide) ?_
  refine zr_callv 77 (As := [_]) (u2 := (0, 0)) rfl rfl rfl rfl rfl rfl rfl (Nat.le_of_ble_eq_true rfl) (Nat.le_of_ble_eq_true rfl) (Nat.le_of_ble_eq_true rfl) rfl (c_begin h _) rfl (fun v2 w2 h74z => ?_)
  obtain ⟨rfl, ξ74z, rfl, x74z, f74z⟩ := h74z
  refine zr_aload_n 78 rfl rfl rfl trivial ?_
  refine zr_iload_n 79 rfl rfl rfl ?_
  refine zr_aload_n 80 rfl rfl rfl trivial ?_
  refine zr_getf 83 rfl rfl rfl rfl rfl ?_
  refine zr_aload_n 84 rfl rfl rfl trivial ?_
  refine zr_getf 87 rfl rfl rfl rfl rfl ?_
  refine zr_isub 88 rfl rfl ?_
  rw [x74z.2.2.2.2.1, x74z.2.2.2.2.2.1]
  refine zr_callv 91 (As := [_, _]) (u2 := (0, 0)) rfl rfl rfl rfl rfl rfl rfl (Nat.le_of_ble_eq_true rfl) (Nat.le_of_ble_eq_true rfl) (Nat.le_of_ble_eq_true rfl) rfl (c_partedBy x74z _ _) rfl (fun v2 w2 h88z => ?_)
  obtain ⟨rfl, ξ88z, rfl, x88z, f88z⟩ := h88z
  refine zr_iret rfl rfl ?_
  have es : zsr0 a m x t = (if a - m = 0 then 0 else x / (a - m), if a - m = 0 then ((zbeg 12 t).1, (zbeg 12 t).2.1, 1) else zbeg 12 t) := by
    unfold zsr0
    split <;> rfl
  rw [es]
  exact ⟨rfl, ξ88z, rfl, x88z, fun b b1 b2 => by rw [f88z b b1 b2, f74z b b1 b2]⟩
set_option maxRecDepth 20000 in
set_option maxHeartbeats 1000000 in
theorem c_shares1 {S : Nat × (Nat → Int32)} {d n : Nat} {ξ : Nat → Nat → Int32} {ρ : zRho} {k a m : Int32} {t : zT} (h : zXT ξ k a m t) (x : Int32) : Zc S (d + 2) jX4_sharesAs [.ref 40, .int 1, .int x] (zWof n ξ ρ) (fun r w => r = some (.int ((zsr0 a m x t).1)) ∧ ∃ ξ2, w = zWof n ξ2 ρ ∧ zXT ξ2 k a m ((zsr0 a m x t).2) ∧ zfrT ξ ξ2) := by
  refine Zc_in (q := (4, 0, 1, 2, 3, 0, 0, zk_X4_sharesAs)) rfl (Nat.le_of_ble_eq_true rfl) (L := [_, _, _]) rfl ?_
  refine zr_iload_n 1 rfl rfl rfl ?_
  by_cases s1_3 : (1 : Int32) = 3
  · exact absurd s1_3 (by decide)
  by_cases s1_5 : (1 : Int32) = 5
  · exact absurd s1_5 (by decide)
  refine zr_lsw 71 (off := 70) rfl rfl (by rw [lv_osw s1_3 (by decide), lv_osw s1_5 (by decide)] <;> rfl) (by decide) ?_
  refine zr_aload_n 72 rfl rfl rfl trivial ?_
  refine zr_bipush 74 (x := 12) rfl rfl (by decide) ?_
  refine zr_callv 77 (As := [_]) (u2 := (0, 0)) rfl rfl rfl rfl rfl rfl rfl (Nat.le_of_ble_eq_true rfl) (Nat.le_of_ble_eq_true rfl) (Nat.le_of_ble_eq_true rfl) rfl (c_begin h _) rfl (fun v2 w2 h74z => ?_)
  obtain ⟨rfl, ξ74z, rfl, x74z, f74z⟩ := h74z
  refine zr_aload_n 78 rfl rfl rfl trivial ?_
  refine zr_iload_n 79 rfl rfl rfl ?_
  refine zr_aload_n 80 rfl rfl rfl trivial ?_
  refine zr_getf 83 rfl rfl rfl rfl rfl ?_
  refine zr_aload_n 84 rfl rfl rfl trivial ?_
  refine zr_getf 87 rfl rfl rfl rfl rfl ?_
  refine zr_isub 88 rfl rfl ?_
  rw [x74z.2.2.2.2.1, x74z.2.2.2.2.2.1]
  refine zr_callv 91 (As := [_, _]) (u2 := (0, 0)) rfl rfl rfl rfl rfl rfl rfl (Nat.le_of_ble_eq_true rfl) (Nat.le_of_ble_eq_true rfl) (Nat.le_of_ble_eq_true rfl) rfl (c_partedBy x74z _ _) rfl (fun v2 w2 h88z => ?_)
  obtain ⟨rfl, ξ88z, rfl, x88z, f88z⟩ := h88z
  refine zr_iret rfl rfl ?_
  have es : zsr0 a m x t = (if a - m = 0 then 0 else x / (a - m), if a - m = 0 then ((zbeg 12 t).1, (zbeg 12 t).2.1, 1) else zbeg 12 t) := by
    unfold zsr0
    split <;> rfl
  rw [es]
  exact ⟨rfl, ξ88z, rfl, x88z, fun b b1 b2 => by rw [f88z b b1 b2, f74z b b1 b2]⟩
set_option maxRecDepth 20000 in
set_option maxHeartbeats 1000000 in
theorem c_shares {S : Nat × (Nat → Int32)} {d n : Nat} {ξ : Nat → Nat → Int32} {ρ : zRho} {k a m : Int32} {t : zT} (h : zXT ξ k a m t) (as x : Int32) : Zc S (d + 5) jX4_sharesAs [.ref 40, .int as, .int x] (zWof n ξ ρ) (fun r w => r = some (.int ((zsr k a m as x t).1)) ∧ ∃ ξ2, w = zWof n ξ2 ρ ∧ zXT ξ2 k a m ((zsr k a m as x t).2) ∧ zfrT ξ ξ2) := by
  refine Zc_in (q := (4, 0, 1, 2, 3, 0, 0, zk_X4_sharesAs)) rfl (Nat.le_of_ble_eq_true rfl) (L := [_, _, _]) rfl ?_
  refine zr_iload_n 1 rfl rfl rfl ?_
  by_cases s1_3 : as = 3
  · refine zr_lsw 28 (off := 27) rfl rfl (by rw [s1_3] <;> rfl) (by decide) ?_
    rw [show zsr k a m as x t = ((zsr0 a m (x + 2) (zbeg 50 t)).1 ^^^ 1, (zsr0 a m (x + 2) (zbeg 50 t)).2) from if_pos s1_3]
    refine zr_aload_n 29 rfl rfl rfl trivial ?_
    refine zr_bipush 31 (x := 50) rfl rfl (by decide) ?_
    refine zr_callv 34 (As := [_]) (u2 := (0, 0)) rfl rfl rfl rfl rfl rfl rfl (Nat.le_of_ble_eq_true rfl) (Nat.le_of_ble_eq_true rfl) (Nat.le_of_ble_eq_true rfl) rfl (c_begin h _) rfl (fun v2 w2 h31z => ?_)
    obtain ⟨rfl, ξ31z, rfl, x31z, f31z⟩ := h31z
    refine zr_aload_n 35 rfl rfl rfl trivial ?_
    refine zr_iconst 36 (x := 1) rfl rfl (by decide) ?_
    refine zr_iload_n 37 rfl rfl rfl ?_
    refine zr_iconst 38 (x := 2) rfl rfl (by decide) ?_
    refine zr_iadd 39 rfl rfl ?_
    refine zr_callv 42 (As := [_, _]) (u2 := (0, 0)) rfl rfl rfl rfl rfl rfl rfl (Nat.le_of_ble_eq_true rfl) (Nat.le_of_ble_eq_true rfl) (Nat.le_of_ble_eq_true rfl) rfl (c_shares1 x31z _) rfl (fun v2 w2 h39z => ?_)
    obtain ⟨rfl, ξ39z, rfl, x39z, f39z⟩ := h39z
    refine zr_iconst 43 (x := 1) rfl rfl (by decide) ?_
    refine zr_ixor 44 rfl rfl ?_
    refine zr_iret rfl rfl ?_
    exact ⟨rfl, ξ39z, rfl, x39z, fun b b1 b2 => by rw [f39z b b1 b2, f31z b b1 b2]⟩
  by_cases s1_5 : as = 5
  · refine zr_lsw 45 (off := 44) rfl rfl (by rw [s1_5] <;> rfl) (by decide) ?_
    rw [show zsr k a m as x t = ((zsr0 a m x (zbeg 61 t)).1 + (zwk k m a (zsr0 a m x (zbeg 61 t)).2).1, (zwk k m a (zsr0 a m x (zbeg 61 t)).2).2) from (if_neg s1_3).trans (if_pos s1_5)]
    refine zr_aload_n 46 rfl rfl rfl trivial ?_
    refine zr_bipush 48 (x := 61) rfl rfl (by decide) ?_
    refine zr_callv 51 (As := [_]) (u2 := (0, 0)) rfl rfl rfl rfl rfl rfl rfl (Nat.le_of_ble_eq_true rfl) (Nat.le_of_ble_eq_true rfl) (Nat.le_of_ble_eq_true rfl) rfl (c_begin h _) rfl (fun v2 w2 h48z => ?_)
    obtain ⟨rfl, ξ48z, rfl, x48z, f48z⟩ := h48z
    refine zr_aload_n 52 rfl rfl rfl trivial ?_
    refine zr_iconst 53 (x := 0) rfl rfl (by decide) ?_
    refine zr_iload_n 54 rfl rfl rfl ?_
    refine zr_callv 57 (As := [_, _]) (u2 := (0, 0)) rfl rfl rfl rfl rfl rfl rfl (Nat.le_of_ble_eq_true rfl) (Nat.le_of_ble_eq_true rfl) (Nat.le_of_ble_eq_true rfl) rfl (c_shares0 x48z _) rfl (fun v2 w2 h54z => ?_)
    obtain ⟨rfl, ξ54z, rfl, x54z, f54z⟩ := h54z
    refine zr_aload_n 58 rfl rfl rfl trivial ?_
    refine zr_aload_n 59 rfl rfl rfl trivial ?_
    refine zr_getf 62 rfl rfl rfl rfl rfl ?_
    refine zr_aload_n 63 rfl rfl rfl trivial ?_
    refine zr_getf 66 rfl rfl rfl rfl rfl ?_
    rw [x54z.2.2.2.1, x54z.2.2.2.2.1]
    refine zr_callv 69 (As := [_, _]) (u2 := (0, 0)) rfl rfl rfl rfl rfl rfl rfl (Nat.le_of_ble_eq_true rfl) (Nat.le_of_ble_eq_true rfl) (Nat.le_of_ble_eq_true rfl) rfl (c_works x54z _ _) rfl (fun v2 w2 h66z => ?_)
    obtain ⟨rfl, ξ66z, rfl, x66z, f66z⟩ := h66z
    refine zr_iadd 70 rfl rfl ?_
    refine zr_iret rfl rfl ?_
    exact ⟨rfl, ξ66z, rfl, x66z, fun b b1 b2 => by rw [f66z b b1 b2, f54z b b1 b2, f48z b b1 b2]⟩
  refine zr_lsw 71 (off := 70) rfl rfl (by rw [lv_osw s1_3 (by decide), lv_osw s1_5 (by decide)] <;> rfl) (by decide) ?_
  rw [show zsr k a m as x t = zsr0 a m x t from (if_neg s1_3).trans (if_neg s1_5)]
  refine zr_aload_n 72 rfl rfl rfl trivial ?_
  refine zr_bipush 74 (x := 12) rfl rfl (by decide) ?_
  refine zr_callv 77 (As := [_]) (u2 := (0, 0)) rfl rfl rfl rfl rfl rfl rfl (Nat.le_of_ble_eq_true rfl) (Nat.le_of_ble_eq_true rfl) (Nat.le_of_ble_eq_true rfl) rfl (c_begin h _) rfl (fun v2 w2 h74z => ?_)
  obtain ⟨rfl, ξ74z, rfl, x74z, f74z⟩ := h74z
  refine zr_aload_n 78 rfl rfl rfl trivial ?_
  refine zr_iload_n 79 rfl rfl rfl ?_
  refine zr_aload_n 80 rfl rfl rfl trivial ?_
  refine zr_getf 83 rfl rfl rfl rfl rfl ?_
  refine zr_aload_n 84 rfl rfl rfl trivial ?_
  refine zr_getf 87 rfl rfl rfl rfl rfl ?_
  refine zr_isub 88 rfl rfl ?_
  rw [x74z.2.2.2.2.1, x74z.2.2.2.2.2.1]
  refine zr_callv 91 (As := [_, _]) (u2 := (0, 0)) rfl rfl rfl rfl rfl rfl rfl (Nat.le_of_ble_eq_true rfl) (Nat.le_of_ble_eq_true rfl) (Nat.le_of_ble_eq_true rfl) rfl (c_partedBy x74z _ _) rfl (fun v2 w2 h88z => ?_)
  obtain ⟨rfl, ξ88z, rfl, x88z, f88z⟩ := h88z
  refine zr_iret rfl rfl ?_
  have es : zsr0 a m x t = (if a - m = 0 then 0 else x / (a - m), if a - m = 0 then ((zbeg 12 t).1, (zbeg 12 t).2.1, 1) else zbeg 12 t) := by
    unfold zsr0
    split <;> rfl
  rw [es]
  exact ⟨rfl, ξ88z, rfl, x88z, fun b b1 b2 => by rw [f88z b b1 b2, f74z b b1 b2]⟩
set_option maxRecDepth 20000 in
set_option maxHeartbeats 1000000 in
theorem c_tells0 {S : Nat × (Nat → Int32)} {d n : Nat} {ξ : Nat → Nat → Int32} {ρ : zRho} {k a m : Int32} {t : zT} (h : zXT ξ k a m t) (x : Int32) : Zc S (d + 7) jX4_tellsAs [.ref 40, .int 0, .int x] (zWof n ξ ρ) (fun r w => r = some (.int ((ztl0 k a m x t).1)) ∧ ∃ ξ2, w = zWof n ξ2 ρ ∧ zXT ξ2 k a m ((ztl0 k a m x t).2) ∧ zfrT ξ ξ2) := by
  refine Zc_in (q := (4, 0, 1, 2, 3, 0, 0, zk_X4_tellsAs)) rfl (Nat.le_of_ble_eq_true rfl) (L := [_, _, _]) rfl ?_
  refine zr_iload_n 1 rfl rfl rfl ?_
  by_cases s1_2 : (0 : Int32) = 2
  · exact absurd s1_2 (by decide)
  by_cases s1_3 : (0 : Int32) = 3
  · exact absurd s1_3 (by decide)
  by_cases s1_4 : (0 : Int32) = 4
  · exact absurd s1_4 (by decide)
  by_cases s1_5 : (0 : Int32) = 5
  · exact absurd s1_5 (by decide)
  refine zr_tsw_out 73 rfl (by have q0 := zne_i s1_2; have q1 := zne_i s1_3; have q2 := zne_i s1_4; have q3 := zne_i s1_5; rw [show (2 : Int32).toInt = 2 by decide] at q0; rw [show (3 : Int32).toInt = 3 by decide] at q1; rw [show (4 : Int32).toInt = 4 by decide] at q2; rw [show (5 : Int32).toInt = 5 by decide] at q3; omega) (by decide) ?_
  refine zr_aload_n 74 rfl rfl rfl trivial ?_
  refine zr_bipush 76 (x := 13) rfl rfl (by decide) ?_
  refine zr_callv 79 (As := [_]) (u2 := (0, 0)) rfl rfl rfl rfl rfl rfl rfl (Nat.le_of_ble_eq_true rfl) (Nat.le_of_ble_eq_true rfl) (Nat.le_of_ble_eq_true rfl) rfl (c_begin h _) rfl (fun v2 w2 h76z => ?_)
  obtain ⟨rfl, ξ76z, rfl, x76z, f76z⟩ := h76z
  refine zr_aload_n 80 rfl rfl rfl trivial ?_
  refine zr_aload_n 81 rfl rfl rfl trivial ?_
  refine zr_getf 84 rfl rfl rfl rfl rfl ?_
  refine zr_iload_n 85 rfl rfl rfl ?_
  rw [x76z.2.2.2.1]
  refine zr_callv 88 (As := [_, _]) (u2 := (0, 0)) rfl rfl rfl rfl rfl rfl rfl (Nat.le_of_ble_eq_true rfl) (Nat.le_of_ble_eq_true rfl) (Nat.le_of_ble_eq_true rfl) rfl (c_waits x76z _ _) rfl (fun v2 w2 h85z => ?_)
  obtain ⟨rfl, ξ85z, rfl, x85z, f85z⟩ := h85z
  refine zr_aload_n 89 rfl rfl rfl trivial ?_
  refine zr_getf 92 rfl rfl rfl rfl rfl ?_
  rw [x85z.2.2.2.2.1]
  refine zr_ixor 93 rfl rfl ?_
  refine zr_iret rfl rfl ?_
  exact ⟨rfl, ξ85z, rfl, x85z, fun b b1 b2 => by rw [f85z b b1 b2, f76z b b1 b2]⟩
set_option maxRecDepth 20000 in
set_option maxHeartbeats 1000000 in
theorem c_tells {S : Nat × (Nat → Int32)} {d n : Nat} {ξ : Nat → Nat → Int32} {ρ : zRho} {k a m : Int32} {t : zT} (h : zXT ξ k a m t) (as x : Int32) : Zc S (d + 8) jX4_tellsAs [.ref 40, .int as, .int x] (zWof n ξ ρ) (fun r w => r = some (.int ((ztl k a m as x t).1)) ∧ ∃ ξ2, w = zWof n ξ2 ρ ∧ zXT ξ2 k a m ((ztl k a m as x t).2) ∧ zfrT ξ ξ2) := by
  refine Zc_in (q := (4, 0, 1, 2, 3, 0, 0, zk_X4_tellsAs)) rfl (Nat.le_of_ble_eq_true rfl) (L := [_, _, _]) rfl ?_
  refine zr_iload_n 1 rfl rfl rfl ?_
  by_cases s1_2 : as = 2
  · refine zr_tsw_in 32 0 rfl (by rw [s1_2]; decide) (by decide) rfl (by decide) ?_
    rw [show ztl k a m as x t = ((ztl0 k a m x (zbeg 31 t)).1 + (zsr k a m k m (ztl0 k a m x (zbeg 31 t)).2).1, (zsr k a m k m (ztl0 k a m x (zbeg 31 t)).2).2) from if_pos (Or.inl s1_2)]
    refine zr_aload_n 33 rfl rfl rfl trivial ?_
    refine zr_bipush 35 (x := 31) rfl rfl (by decide) ?_
    refine zr_callv 38 (As := [_]) (u2 := (0, 0)) rfl rfl rfl rfl rfl rfl rfl (Nat.le_of_ble_eq_true rfl) (Nat.le_of_ble_eq_true rfl) (Nat.le_of_ble_eq_true rfl) rfl (c_begin h _) rfl (fun v2 w2 h35z => ?_)
    obtain ⟨rfl, ξ35z, rfl, x35z, f35z⟩ := h35z
    refine zr_aload_n 39 rfl rfl rfl trivial ?_
    refine zr_iconst 40 (x := 0) rfl rfl (by decide) ?_
    refine zr_iload_n 41 rfl rfl rfl ?_
    refine zr_callv 44 (As := [_, _]) (u2 := (0, 0)) rfl rfl rfl rfl rfl rfl rfl (Nat.le_of_ble_eq_true rfl) (Nat.le_of_ble_eq_true rfl) (Nat.le_of_ble_eq_true rfl) rfl (c_tells0 x35z _) rfl (fun v2 w2 h41z => ?_)
    obtain ⟨rfl, ξ41z, rfl, x41z, f41z⟩ := h41z
    refine zr_aload_n 45 rfl rfl rfl trivial ?_
    refine zr_aload_n 46 rfl rfl rfl trivial ?_
    refine zr_getf 49 rfl rfl rfl rfl rfl ?_
    refine zr_aload_n 50 rfl rfl rfl trivial ?_
    refine zr_getf 53 rfl rfl rfl rfl rfl ?_
    rw [x41z.2.2.2.1, x41z.2.2.2.2.2.1]
    refine zr_callv 56 (As := [_, _]) (u2 := (0, 0)) rfl rfl rfl rfl rfl rfl rfl (Nat.le_of_ble_eq_true rfl) (Nat.le_of_ble_eq_true rfl) (Nat.le_of_ble_eq_true rfl) rfl (c_shares x41z _ _) rfl (fun v2 w2 h53z => ?_)
    obtain ⟨rfl, ξ53z, rfl, x53z, f53z⟩ := h53z
    refine zr_iadd 57 rfl rfl ?_
    refine zr_iret rfl rfl ?_
    exact ⟨rfl, ξ53z, rfl, x53z, fun b b1 b2 => by rw [f53z b b1 b2, f41z b b1 b2, f35z b b1 b2]⟩
  by_cases s1_3 : as = 3
  · refine zr_tsw_in 73 1 rfl (by rw [s1_3]; decide) (by decide) rfl (by decide) ?_
    rw [show ztl k a m as x t = ztl0 k a m x t from (if_neg (by rintro (z | z) <;> simp_all)).trans (if_neg (by simp_all))]
    refine zr_aload_n 74 rfl rfl rfl trivial ?_
    refine zr_bipush 76 (x := 13) rfl rfl (by decide) ?_
    refine zr_callv 79 (As := [_]) (u2 := (0, 0)) rfl rfl rfl rfl rfl rfl rfl (Nat.le_of_ble_eq_true rfl) (Nat.le_of_ble_eq_true rfl) (Nat.le_of_ble_eq_true rfl) rfl (c_begin h _) rfl (fun v2 w2 h76z => ?_)
    obtain ⟨rfl, ξ76z, rfl, x76z, f76z⟩ := h76z
    refine zr_aload_n 80 rfl rfl rfl trivial ?_
    refine zr_aload_n 81 rfl rfl rfl trivial ?_
    refine zr_getf 84 rfl rfl rfl rfl rfl ?_
    refine zr_iload_n 85 rfl rfl rfl ?_
    rw [x76z.2.2.2.1]
    refine zr_callv 88 (As := [_, _]) (u2 := (0, 0)) rfl rfl rfl rfl rfl rfl rfl (Nat.le_of_ble_eq_true rfl) (Nat.le_of_ble_eq_true rfl) (Nat.le_of_ble_eq_true rfl) rfl (c_waits x76z _ _) rfl (fun v2 w2 h85z => ?_)
    obtain ⟨rfl, ξ85z, rfl, x85z, f85z⟩ := h85z
    refine zr_aload_n 89 rfl rfl rfl trivial ?_
    refine zr_getf 92 rfl rfl rfl rfl rfl ?_
    rw [x85z.2.2.2.2.1]
    refine zr_ixor 93 rfl rfl ?_
    refine zr_iret rfl rfl ?_
    exact ⟨rfl, ξ85z, rfl, x85z, fun b b1 b2 => by rw [f85z b b1 b2, f76z b b1 b2]⟩
  by_cases s1_4 : as = 4
  · refine zr_tsw_in 32 2 rfl (by rw [s1_4]; decide) (by decide) rfl (by decide) ?_
    rw [show ztl k a m as x t = ((ztl0 k a m x (zbeg 31 t)).1 + (zsr k a m k m (ztl0 k a m x (zbeg 31 t)).2).1, (zsr k a m k m (ztl0 k a m x (zbeg 31 t)).2).2) from if_pos (Or.inr s1_4)]
    refine zr_aload_n 33 rfl rfl rfl trivial ?_
    refine zr_bipush 35 (x := 31) rfl rfl (by decide) ?_
    refine zr_callv 38 (As := [_]) (u2 := (0, 0)) rfl rfl rfl rfl rfl rfl rfl (Nat.le_of_ble_eq_true rfl) (Nat.le_of_ble_eq_true rfl) (Nat.le_of_ble_eq_true rfl) rfl (c_begin h _) rfl (fun v2 w2 h35z => ?_)
    obtain ⟨rfl, ξ35z, rfl, x35z, f35z⟩ := h35z
    refine zr_aload_n 39 rfl rfl rfl trivial ?_
    refine zr_iconst 40 (x := 0) rfl rfl (by decide) ?_
    refine zr_iload_n 41 rfl rfl rfl ?_
    refine zr_callv 44 (As := [_, _]) (u2 := (0, 0)) rfl rfl rfl rfl rfl rfl rfl (Nat.le_of_ble_eq_true rfl) (Nat.le_of_ble_eq_true rfl) (Nat.le_of_ble_eq_true rfl) rfl (c_tells0 x35z _) rfl (fun v2 w2 h41z => ?_)
    obtain ⟨rfl, ξ41z, rfl, x41z, f41z⟩ := h41z
    refine zr_aload_n 45 rfl rfl rfl trivial ?_
    refine zr_aload_n 46 rfl rfl rfl trivial ?_
    refine zr_getf 49 rfl rfl rfl rfl rfl ?_
    refine zr_aload_n 50 rfl rfl rfl trivial ?_
    refine zr_getf 53 rfl rfl rfl rfl rfl ?_
    rw [x41z.2.2.2.1, x41z.2.2.2.2.2.1]
    refine zr_callv 56 (As := [_, _]) (u2 := (0, 0)) rfl rfl rfl rfl rfl rfl rfl (Nat.le_of_ble_eq_true rfl) (Nat.le_of_ble_eq_true rfl) (Nat.le_of_ble_eq_true rfl) rfl (c_shares x41z _ _) rfl (fun v2 w2 h53z => ?_)
    obtain ⟨rfl, ξ53z, rfl, x53z, f53z⟩ := h53z
    refine zr_iadd 57 rfl rfl ?_
    refine zr_iret rfl rfl ?_
    exact ⟨rfl, ξ53z, rfl, x53z, fun b b1 b2 => by rw [f53z b b1 b2, f41z b b1 b2, f35z b b1 b2]⟩
  by_cases s1_5 : as = 5
  · refine zr_tsw_in 58 3 rfl (by rw [s1_5]; decide) (by decide) rfl (by decide) ?_
    rw [show ztl k a m as x t = ((ztl0 k a m x (zbeg 60 t)).1 * 2, (ztl0 k a m x (zbeg 60 t)).2) from (if_neg (by rintro (z | z) <;> simp_all)).trans (if_pos s1_5)]
    refine zr_aload_n 59 rfl rfl rfl trivial ?_
    refine zr_bipush 61 (x := 60) rfl rfl (by decide) ?_
    refine zr_callv 64 (As := [_]) (u2 := (0, 0)) rfl rfl rfl rfl rfl rfl rfl (Nat.le_of_ble_eq_true rfl) (Nat.le_of_ble_eq_true rfl) (Nat.le_of_ble_eq_true rfl) rfl (c_begin h _) rfl (fun v2 w2 h61z => ?_)
    obtain ⟨rfl, ξ61z, rfl, x61z, f61z⟩ := h61z
    refine zr_aload_n 65 rfl rfl rfl trivial ?_
    refine zr_iconst 66 (x := 0) rfl rfl (by decide) ?_
    refine zr_iload_n 67 rfl rfl rfl ?_
    refine zr_callv 70 (As := [_, _]) (u2 := (0, 0)) rfl rfl rfl rfl rfl rfl rfl (Nat.le_of_ble_eq_true rfl) (Nat.le_of_ble_eq_true rfl) (Nat.le_of_ble_eq_true rfl) rfl (c_tells0 x61z _) rfl (fun v2 w2 h67z => ?_)
    obtain ⟨rfl, ξ67z, rfl, x67z, f67z⟩ := h67z
    refine zr_iconst 71 (x := 2) rfl rfl (by decide) ?_
    refine zr_imul 72 rfl rfl ?_
    refine zr_iret rfl rfl ?_
    exact ⟨rfl, ξ67z, rfl, x67z, fun b b1 b2 => by rw [f67z b b1 b2, f61z b b1 b2]⟩
  refine zr_tsw_out 73 rfl (by have q0 := zne_i s1_2; have q1 := zne_i s1_3; have q2 := zne_i s1_4; have q3 := zne_i s1_5; rw [show (2 : Int32).toInt = 2 by decide] at q0; rw [show (3 : Int32).toInt = 3 by decide] at q1; rw [show (4 : Int32).toInt = 4 by decide] at q2; rw [show (5 : Int32).toInt = 5 by decide] at q3; omega) (by decide) ?_
  rw [show ztl k a m as x t = ztl0 k a m x t from (if_neg (by rintro (z | z) <;> simp_all)).trans (if_neg (by simp_all))]
  refine zr_aload_n 74 rfl rfl rfl trivial ?_
  refine zr_bipush 76 (x := 13) rfl rfl (by decide) ?_
  refine zr_callv 79 (As := [_]) (u2 := (0, 0)) rfl rfl rfl rfl rfl rfl rfl (Nat.le_of_ble_eq_true rfl) (Nat.le_of_ble_eq_true rfl) (Nat.le_of_ble_eq_true rfl) rfl (c_begin h _) rfl (fun v2 w2 h76z => ?_)
  obtain ⟨rfl, ξ76z, rfl, x76z, f76z⟩ := h76z
  refine zr_aload_n 80 rfl rfl rfl trivial ?_
  refine zr_aload_n 81 rfl rfl rfl trivial ?_
  refine zr_getf 84 rfl rfl rfl rfl rfl ?_
  refine zr_iload_n 85 rfl rfl rfl ?_
  rw [x76z.2.2.2.1]
  refine zr_callv 88 (As := [_, _]) (u2 := (0, 0)) rfl rfl rfl rfl rfl rfl rfl (Nat.le_of_ble_eq_true rfl) (Nat.le_of_ble_eq_true rfl) (Nat.le_of_ble_eq_true rfl) rfl (c_waits x76z _ _) rfl (fun v2 w2 h85z => ?_)
  obtain ⟨rfl, ξ85z, rfl, x85z, f85z⟩ := h85z
  refine zr_aload_n 89 rfl rfl rfl trivial ?_
  refine zr_getf 92 rfl rfl rfl rfl rfl ?_
  rw [x85z.2.2.2.2.1]
  refine zr_ixor 93 rfl rfl ?_
  refine zr_iret rfl rfl ?_
  exact ⟨rfl, ξ85z, rfl, x85z, fun b b1 b2 => by rw [f85z b b1 b2, f76z b b1 b2]⟩
set_option maxRecDepth 20000 in
set_option maxHeartbeats 1000000 in
theorem c_answer {S : Nat × (Nat → Int32)} {d n : Nat} {ξ : Nat → Nat → Int32} {ρ : zRho} {k a m : Int32} {t : zT} (h : zXT ξ k a m t) (act x : Int32) : Zc S (d + 9) jX4_answer [.ref 40, .int act, .int x] (zWof n ξ ρ) (fun r w => r = some (.int (if (zans k a m act x t).2.2.2 = 0 then (zans k a m act x t).1 else -15)) ∧ ∃ ξ2, w = zWof n ξ2 ρ ∧ zXT ξ2 k a m ((zans k a m act x t).2) ∧ zfrT ξ ξ2) := by
  refine Zc_in (q := (4, 0, 1, 2, 4, 0, 0, zk_X4_answer)) rfl (Nat.le_of_ble_eq_true rfl) (L := [_, _, _, _]) rfl ?_
  refine zr_iload_n 1 rfl rfl rfl ?_
  by_cases s1_0 : act = 0
  · refine zr_tsw_in 28 0 rfl (by rw [s1_0]; decide) (by decide) rfl (by decide) ?_
    rw [show zans k a m act x t = zwk k m x t from if_pos s1_0]
    refine zr_aload_n 29 rfl rfl rfl trivial ?_
    refine zr_aload_n 30 rfl rfl rfl trivial ?_
    refine zr_getf 33 rfl rfl rfl rfl rfl ?_
    refine zr_iload_n 34 rfl rfl rfl ?_
    rw [h.2.2.2.1]
    refine zr_callv 37 (As := [_, _]) (u2 := (0, 0)) rfl rfl rfl rfl rfl rfl rfl (Nat.le_of_ble_eq_true rfl) (Nat.le_of_ble_eq_true rfl) (Nat.le_of_ble_eq_true rfl) rfl (c_works h _ _) rfl (fun v2 w2 h34z => ?_)
    obtain ⟨rfl, ξ34z, rfl, x34z, f34z⟩ := h34z
    refine zr_istore_n 38 (L2 := [_, _, _, _]) rfl rfl (Nat.le_of_ble_eq_true rfl) (by first | exact trivial | exact rfl) rfl ?_
    refine zr_goto 77 rfl (by decide) ?_
    refine zr_aload_n 78 rfl rfl rfl trivial ?_
    refine zr_getf 81 rfl rfl rfl rfl rfl ?_
    refine zr_if_eq 89 84 rfl rfl (by decide) (fun c81z => ?_) (fun c81z => ?_)
    · refine zr_iload_n 90 rfl rfl rfl ?_
      refine zr_iret rfl rfl ?_
      refine ⟨?_, ξ34z, rfl, x34z, f34z⟩
      rw [x34z.2.2.1] at c81z
      rw [if_pos c81z]
    · refine zr_bipush 86 (x := (-15)) rfl rfl (by decide) ?_
      refine zr_goto 90 rfl (by decide) ?_
      refine zr_iret rfl rfl ?_
      refine ⟨?_, ξ34z, rfl, x34z, f34z⟩
      rw [x34z.2.2.1] at c81z
      rw [if_neg c81z]
  by_cases s1_1 : act = 1
  · refine zr_tsw_in 41 1 rfl (by rw [s1_1]; decide) (by decide) rfl (by decide) ?_
    rw [show zans k a m act x t = zwt k a m k x t from (if_neg s1_0).trans (if_pos s1_1)]
    refine zr_aload_n 42 rfl rfl rfl trivial ?_
    refine zr_aload_n 43 rfl rfl rfl trivial ?_
    refine zr_getf 46 rfl rfl rfl rfl rfl ?_
    refine zr_iload_n 47 rfl rfl rfl ?_
    rw [h.2.2.2.1]
    refine zr_callv 50 (As := [_, _]) (u2 := (0, 0)) rfl rfl rfl rfl rfl rfl rfl (Nat.le_of_ble_eq_true rfl) (Nat.le_of_ble_eq_true rfl) (Nat.le_of_ble_eq_true rfl) rfl (c_waits h _ _) rfl (fun v2 w2 h47z => ?_)
    obtain ⟨rfl, ξ47z, rfl, x47z, f47z⟩ := h47z
    refine zr_istore_n 51 (L2 := [_, _, _, _]) rfl rfl (Nat.le_of_ble_eq_true rfl) (by first | exact trivial | exact rfl) rfl ?_
    refine zr_goto 77 rfl (by decide) ?_
    refine zr_aload_n 78 rfl rfl rfl trivial ?_
    refine zr_getf 81 rfl rfl rfl rfl rfl ?_
    refine zr_if_eq 89 84 rfl rfl (by decide) (fun c81z => ?_) (fun c81z => ?_)
    · refine zr_iload_n 90 rfl rfl rfl ?_
      refine zr_iret rfl rfl ?_
      refine ⟨?_, ξ47z, rfl, x47z, f47z⟩
      rw [x47z.2.2.1] at c81z
      rw [if_pos c81z]
    · refine zr_bipush 86 (x := (-15)) rfl rfl (by decide) ?_
      refine zr_goto 90 rfl (by decide) ?_
      refine zr_iret rfl rfl ?_
      refine ⟨?_, ξ47z, rfl, x47z, f47z⟩
      rw [x47z.2.2.1] at c81z
      rw [if_neg c81z]
  by_cases s1_2 : act = 2
  · refine zr_tsw_in 54 2 rfl (by rw [s1_2]; decide) (by decide) rfl (by decide) ?_
    rw [show zans k a m act x t = zsr k a m k x t from (if_neg s1_0).trans ((if_neg s1_1).trans (if_pos s1_2))]
    refine zr_aload_n 55 rfl rfl rfl trivial ?_
    refine zr_aload_n 56 rfl rfl rfl trivial ?_
    refine zr_getf 59 rfl rfl rfl rfl rfl ?_
    refine zr_iload_n 60 rfl rfl rfl ?_
    rw [h.2.2.2.1]
    refine zr_callv 63 (As := [_, _]) (u2 := (0, 0)) rfl rfl rfl rfl rfl rfl rfl (Nat.le_of_ble_eq_true rfl) (Nat.le_of_ble_eq_true rfl) (Nat.le_of_ble_eq_true rfl) rfl (c_shares h _ _) rfl (fun v2 w2 h60z => ?_)
    obtain ⟨rfl, ξ60z, rfl, x60z, f60z⟩ := h60z
    refine zr_istore_n 64 (L2 := [_, _, _, _]) rfl rfl (Nat.le_of_ble_eq_true rfl) (by first | exact trivial | exact rfl) rfl ?_
    refine zr_goto 77 rfl (by decide) ?_
    refine zr_aload_n 78 rfl rfl rfl trivial ?_
    refine zr_getf 81 rfl rfl rfl rfl rfl ?_
    refine zr_if_eq 89 84 rfl rfl (by decide) (fun c81z => ?_) (fun c81z => ?_)
    · refine zr_iload_n 90 rfl rfl rfl ?_
      refine zr_iret rfl rfl ?_
      refine ⟨?_, ξ60z, rfl, x60z, f60z⟩
      rw [x60z.2.2.1] at c81z
      rw [if_pos c81z]
    · refine zr_bipush 86 (x := (-15)) rfl rfl (by decide) ?_
      refine zr_goto 90 rfl (by decide) ?_
      refine zr_iret rfl rfl ?_
      refine ⟨?_, ξ60z, rfl, x60z, f60z⟩
      rw [x60z.2.2.1] at c81z
      rw [if_neg c81z]
  refine zr_tsw_out 67 rfl (by have q0 := zne_i s1_0; have q1 := zne_i s1_1; have q2 := zne_i s1_2; rw [show (0 : Int32).toInt = 0 by decide] at q0; rw [show (1 : Int32).toInt = 1 by decide] at q1; rw [show (2 : Int32).toInt = 2 by decide] at q2; omega) (by decide) ?_
  rw [show zans k a m act x t = ztl k a m k x t from (if_neg s1_0).trans ((if_neg s1_1).trans (if_neg s1_2))]
  refine zr_aload_n 68 rfl rfl rfl trivial ?_
  refine zr_aload_n 69 rfl rfl rfl trivial ?_
  refine zr_getf 72 rfl rfl rfl rfl rfl ?_
  refine zr_iload_n 73 rfl rfl rfl ?_
  rw [h.2.2.2.1]
  refine zr_callv 76 (As := [_, _]) (u2 := (0, 0)) rfl rfl rfl rfl rfl rfl rfl (Nat.le_of_ble_eq_true rfl) (Nat.le_of_ble_eq_true rfl) (Nat.le_of_ble_eq_true rfl) rfl (c_tells h _ _) rfl (fun v2 w2 h73z => ?_)
  obtain ⟨rfl, ξ73z, rfl, x73z, f73z⟩ := h73z
  refine zr_istore_n 77 (L2 := [_, _, _, _]) rfl rfl (Nat.le_of_ble_eq_true rfl) (by first | exact trivial | exact rfl) rfl ?_
  refine zr_aload_n 78 rfl rfl rfl trivial ?_
  refine zr_getf 81 rfl rfl rfl rfl rfl ?_
  refine zr_if_eq 89 84 rfl rfl (by decide) (fun c81z => ?_) (fun c81z => ?_)
  · refine zr_iload_n 90 rfl rfl rfl ?_
    refine zr_iret rfl rfl ?_
    refine ⟨?_, ξ73z, rfl, x73z, f73z⟩
    rw [x73z.2.2.1] at c81z
    rw [if_pos c81z]
  · refine zr_bipush 86 (x := (-15)) rfl rfl (by decide) ?_
    refine zr_goto 90 rfl (by decide) ?_
    refine zr_iret rfl rfl ?_
    refine ⟨?_, ξ73z, rfl, x73z, f73z⟩
    rw [x73z.2.2.1] at c81z
    rw [if_neg c81z]
set_option maxRecDepth 20000 in
set_option maxHeartbeats 1000000 in
theorem c_act {S : Nat × (Nat → Int32)} {d n : Nat} {ξ : Nat → Nat → Int32} {ρ : zRho} {K : zCs} (h : zXR ξ 1 K) (hK : zOK K) (x act v : Int32) : Zc S (d + 10) jX5_act [.ref 0, .int x, .int act, .int v] (zWof n ξ ρ) (fun r w => ∃ ξ2, w = zWof n ξ2 ρ ∧ r = some (.int (zactF K (ξ 39) (ξ 41) x act v).1) ∧ ξ2 40 1 = nI (zactF K (ξ 39) (ξ 41) x act v).2.1 ∧ (zactF K (ξ 39) (ξ 41) x act v).2.1 ≤ 30 ∧ ξ2 41 = (zactF K (ξ 39) (ξ 41) x act v).2.2.1 ∧ (ξ2 40 5 = 0 ∨ ξ2 40 5 = 1) ∧ zfrT ξ ξ2) := by
  have hd3 := hK.d3
  have hm6 := hK.m6
  have ht60 := hK.t60
  refine Zc_in (q := (5, 0, 1, 3, 5, 0, 0, zk_X5_act)) rfl (Nat.le_of_ble_eq_true rfl) (L := [_, _, _, _, _]) rfl ?_
  refine zr_aload_n 1 rfl rfl rfl trivial ?_
  refine zr_getf 4 rfl rfl rfl rfl rfl ?_
  refine zr_callv 7 (As := []) (u2 := (0, 0)) rfl rfl rfl rfl rfl rfl rfl (Nat.le_of_ble_eq_true rfl) (Nat.le_of_ble_eq_true rfl) (Nat.le_of_ble_eq_true rfl) rfl c_forget rfl (fun v2 w2 h4z => ?_)
  obtain ⟨rfl, rfl⟩ := h4z
  refine zr_iload_n 8 rfl rfl rfl ?_
  refine zr_calls 11 (As := [_]) (u2 := (0, 0)) rfl rfl rfl rfl rfl rfl rfl (Nat.le_of_ble_eq_true rfl) (Nat.le_of_ble_eq_true rfl) (Nat.le_of_ble_eq_true rfl) (c_isShelf _) rfl (fun v2 w2 h8z => ?_)
  obtain ⟨rfl, rfl⟩ := h8z
  refine zr_if_eq 23 14 rfl rfl (by decide) (fun c11z => ?_) (fun c11z => ?_)
  · replace c11z := zb_0.mp c11z
    refine zr_iconst 24 (x := 0) rfl rfl (by decide) ?_
    refine zr_iret rfl rfl ?_
    refine ⟨_, rfl, ?_⟩
    rw [show zactF K (ξ 39) (ξ 41) x act v = (0, (0, ξ 41, 0)) from if_pos (fun z => c11z z.1)]
    exact ⟨rfl, rfl, Nat.zero_le _, rfl, Or.inl rfl, fun b b1 b2 => by rw [zun b1, zun b1]⟩
  · replace c11z := zb_n0.mp c11z
    refine zr_iload_n 15 rfl rfl rfl ?_
    refine zr_if_lt 23 18 rfl rfl (by decide) (fun c15z => ?_) (fun c15z => ?_)
    · refine zr_iconst 24 (x := 0) rfl rfl (by decide) ?_
      refine zr_iret rfl rfl ?_
      refine ⟨_, rfl, ?_⟩
      rw [show zactF K (ξ 39) (ξ 41) x act v = (0, (0, ξ 41, 0)) from if_pos (fun z => absurd z.2.1 (Int32.not_le.mpr c15z))]
      exact ⟨rfl, rfl, Nat.zero_le _, rfl, Or.inl rfl, fun b b1 b2 => by rw [zun b1, zun b1]⟩
    · refine zr_iload_n 19 rfl rfl rfl ?_
      refine zr_iconst 20 (x := 3) rfl rfl (by decide) ?_
      refine zr_icmp_le 25 23 rfl rfl (by decide) (fun c20z => ?_) (fun c20z => ?_)
      · obtain ⟨k, hi, rfl⟩ := zperI (M := 4) rfl (by decide) c11z
        have hq : zactF K (ξ 39) (ξ 41) (nI k) act v = if zpon K (ξ 39) k = -1 then (0, (0, ξ 41, 0)) else (if (zans (K.p (zpon K (ξ 39) k).toNatClampNeg 0) (K.p (zpon K (ξ 39) k).toNatClampNeg 1) (zpon K (ξ 39) k) act v (0, ξ 41, 0)).2.2.2 = 0 then (zans (K.p (zpon K (ξ 39) k).toNatClampNeg 0) (K.p (zpon K (ξ 39) k).toNatClampNeg 1) (zpon K (ξ 39) k) act v (0, ξ 41, 0)).1 else -15, (zans (K.p (zpon K (ξ 39) k).toNatClampNeg 0) (K.p (zpon K (ξ 39) k).toNatClampNeg 1) (zpon K (ξ 39) k) act v (0, ξ 41, 0)).2) := by
          unfold zactF
          rw [if_neg (Decidable.not_not.mpr ⟨c11z, Int32.not_lt.mp c15z, c20z⟩), nI_clamp (by omega)]
        rw [hq]
        have x1 : zXR (zu (zu ξ 40 1 0) 40 5 0) 1 K := h.fr hm6 (fun a a1 a2 => by rw [zun (by omega), zun (by omega)])
        have e39 : zu (zu ξ 40 1 0) 40 5 0 39 = ξ 39 := by rw [zun (by decide), zun (by decide)]
        refine zr_aload_n 26 rfl rfl rfl trivial ?_
        refine zr_iload_n 27 rfl rfl rfl ?_
        refine zr_callv 30 (As := [_]) (u2 := (0, 0)) rfl rfl rfl rfl rfl rfl rfl (Nat.le_of_ble_eq_true rfl) (Nat.le_of_ble_eq_true rfl) (Nat.le_of_ble_eq_true rfl) rfl (c_personOn x1 hi) rfl (fun v2 w2 h27z => ?_)
        obtain ⟨rfl, rfl⟩ := h27z
        rw [e39]
        refine zr_istore 32 (L2 := [_, _, _, _, _]) rfl rfl (Nat.le_of_ble_eq_true rfl) (by first | exact trivial | exact rfl) rfl ?_
        refine zr_iload 34 rfl rfl rfl ?_
        refine zr_iconst 35 (x := (-1)) rfl rfl (by decide) ?_
        refine zr_icmp_ne 40 38 rfl rfl (by decide) (fun c35z => ?_) (fun c35z => ?_)
        · have hpr := zpon_r c35z
          obtain ⟨j, hj, ej⟩ := zperI rfl (by omega) hpr
          rw [ej] at c35z ⊢
          rw [if_neg c35z]
          rw [nI_clamp (by omega)]
          refine zr_aload_n 41 rfl rfl rfl trivial ?_
          refine zr_getf 44 rfl rfl rfl rfl rfl ?_
          refine zr_aload_n 45 rfl rfl rfl trivial ?_
          refine zr_getf 48 rfl rfl rfl rfl rfl ?_
          refine zr_getf 51 rfl rfl rfl rfl rfl ?_
          refine zr_iload 53 rfl rfl rfl ?_
          refine zr_aald 54 rfl rfl rfl (by decide) (nI_clamp (by omega)) (vp_in_nI (by omega) (by omega)) (zrf_ps (by omega)) ?_
          refine zr_iload 56 rfl rfl rfl ?_
          refine zr_callv 59 (As := [_, _]) (u2 := (0, 0)) rfl rfl rfl rfl rfl rfl rfl (Nat.le_of_ble_eq_true rfl) (Nat.le_of_ble_eq_true rfl) (Nat.le_of_ble_eq_true rfl) rfl (c_become (zP zc1 (by omega)) (by omega) _) rfl (fun v2 w2 h56z => ?_)
          obtain ⟨rfl, rfl⟩ := h56z
          refine zr_aload_n 60 rfl rfl rfl trivial ?_
          refine zr_getf 63 rfl rfl rfl rfl rfl ?_
          refine zr_iload_n 64 rfl rfl rfl ?_
          refine zr_iload_n 65 rfl rfl rfl ?_
          have xt : zXT (zu (zu (zu (zu (zu ξ 40 1 0) 40 5 0) 40 2 (K.p j 0)) 40 3 (K.p j 1)) 40 4 (nI j)) (K.p j 0) (K.p j 1) (nI j) (0, ξ 41, 0) := ⟨rfl, rfl, rfl, rfl, rfl, rfl, Nat.zero_le _, Or.inl rfl⟩
          rw [x1.hp j hj 0 (by decide), x1.hp j hj 1 (by decide)]
          refine zr_callv 68 (As := [_, _]) (u2 := (0, 0)) rfl rfl rfl rfl rfl rfl rfl (Nat.le_of_ble_eq_true rfl) (Nat.le_of_ble_eq_true rfl) (Nat.le_of_ble_eq_true rfl) rfl (c_answer xt _ _) rfl (fun v2 w2 h65z => ?_)
          obtain ⟨rfl, ξ2, rfl, x2, f2⟩ := h65z
          refine zr_iret rfl rfl ?_
          exact ⟨ξ2, rfl, rfl, x2.1, x2.2.2.2.2.2.2.1, x2.2.1, by rw [x2.2.2.1]; exact x2.2.2.2.2.2.2.2, fun b b1 b2 => by rw [f2 b b1 b2, zun b1, zun b1, zun b1, zun b1, zun b1]⟩
        · refine zr_iconst 39 (x := 0) rfl rfl (by decide) ?_
          refine zr_iret rfl rfl ?_
          refine ⟨_, rfl, ?_⟩
          rw [if_pos c35z]
          exact ⟨rfl, rfl, Nat.zero_le _, rfl, Or.inl rfl, fun b b1 b2 => by rw [zun b1, zun b1]⟩
      · refine zr_iconst 24 (x := 0) rfl rfl (by decide) ?_
        refine zr_iret rfl rfl ?_
        refine ⟨_, rfl, ?_⟩
        rw [show zactF K (ξ 39) (ξ 41) x act v = (0, (0, ξ 41, 0)) from if_pos (fun z => c20z z.2.2)]
        exact ⟨rfl, rfl, Nat.zero_le _, rfl, Or.inl rfl, fun b b1 b2 => by rw [zun b1, zun b1]⟩
