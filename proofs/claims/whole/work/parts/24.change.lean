theorem zua_same (ξ : Nat → Nat → Int32) (a : Nat) (f : Nat → Int32) : zua ξ a f a = f := by unfold zua; rw [if_pos rfl]
theorem zua_ne {ξ : Nat → Nat → Int32} {a a' : Nat} {f : Nat → Int32} (h : a' ≠ a) : zua ξ a f a' = ξ a' := by unfold zua; rw [if_neg h]
def zlaw1 : Nat → Int32 := fun j => [29, 8, 5, 0, 5].getD j 0
set_option maxRecDepth 20000 in
set_option maxHeartbeats 1000000 in
theorem c_clear {S : Nat × (Nat → Int32)} {d n : Nat} {ξ : Nat → Nat → Int32} {ρ : zRho} {b : Nat} (hb : zisC b) : Zc S (d + 1) jX0_clear [.ref b] (zWof n ξ ρ) (fun r w => r = none ∧ ∃ ξ2, w = zWof n ξ2 ρ ∧ (∀ i, i < 5 → ξ2 (b + 1) i = zlaw1 i) ∧ ξ2 b 4 = 0 ∧ ξ2 b 5 = 0 ∧ ξ2 b 6 = 0 ∧ ξ2 b 7 = ξ b 7 ∧ ∀ a, a ≠ b → a ≠ b + 1 → ξ2 a = ξ a) := by
  refine Zc_in (q := (0, 0, 0, 0, 1, 0, 0, zk_X0_clear)) rfl (Nat.le_of_ble_eq_true rfl) (L := [_]) rfl ?_
  refine zr_gets 3 rfl rfl rfl ?_
  refine zr_iconst 4 (x := 0) rfl rfl (by decide) ?_
  refine zr_aload_n 5 rfl rfl rfl trivial ?_
  refine zr_getf 8 rfl rfl rfl (zc_co hb) rfl ?_
  refine zr_iconst 9 (x := 0) rfl rfl (by decide) ?_
  refine zr_iconst 10 (x := 5) rfl rfl (by decide) ?_
  refine zr_acopy 13 (k1 := 5) (dp1 := 0) (sp1 := 0) rfl rfl rfl (Nat.le_of_ble_eq_true rfl) (zc_c1 hb) (by decide) (by decide) (by decide) (by decide) (by decide) (by decide) (by decide) (Or.inr ⟨2, rfl, by decide, rfl⟩) (by decide) (zW_setA (zcel_c1 hb ρ _).symm) ?_
  refine zr_aload_n 14 rfl rfl rfl trivial ?_
  refine zr_iconst 15 (x := 0) rfl rfl (by decide) ?_
  refine zr_putf 18 rfl rfl rfl (zc_co hb) (Nat.le_of_ble_eq_true rfl) rfl trivial (fun h => by cases h) (zs_co hb 4 (by decide) _) ?_
  refine zr_aload_n 19 rfl rfl rfl trivial ?_
  refine zr_iconst 20 (x := 0) rfl rfl (by decide) ?_
  refine zr_putf 23 rfl rfl rfl (zc_co hb) (Nat.le_of_ble_eq_true rfl) rfl trivial (fun h => by cases h) (zs_co hb 5 (by decide) _) ?_
  refine zr_aload_n 24 rfl rfl rfl trivial ?_
  refine zr_iconst 25 (x := 0) rfl rfl (by decide) ?_
  refine zr_putf 28 rfl rfl rfl (zc_co hb) (Nat.le_of_ble_eq_true rfl) rfl trivial (fun h => by cases h) (zs_co hb 6 (by decide) _) ?_
  refine zr_ret rfl rfl ?_
  refine ⟨rfl, _, rfl, fun i hi => ?_, ?_, ?_, ?_, ?_, fun a h1 h2 => ?_⟩
  · simp [zu_eq, zua_eq, va_cpy, hi, zlaw1]
  · simp [zu_eq]
  · simp [zu_eq]
  · simp [zu_eq]
  · simp [zu_eq, zua_eq]
  · funext k
    simp [zu_eq, zua_eq, h1, h2]
/-- into which place a new DATE goes: from i on down -/
def zaddF (day part : Int32) : Nat → (Nat → Int32) × (Nat → Int32) → (Nat → Int32) × (Nat → Int32)
  | 0, f => (upd f.1 0 day, upd f.2 0 part)
  | i + 1, f => if f.1 i ≤ day then (upd f.1 (i + 1) day, upd f.2 (i + 1) part) else zaddF day part i (upd f.1 (i + 1) (f.1 i), upd f.2 (i + 1) (f.2 i))
/-- n DATES move one place down, from k on -/
def zrmF : Nat → Nat → (Nat → Int32) → Nat → Int32
  | 0, _, f => f
  | n + 1, k, f => zrmF n (k + 1) (upd f k (f (k + 1)))
def zdropF (dd : Nat → Int32) (due : Int32) : Nat → Nat
  | 0 => 0
  | D + 1 => if dd D < due then D + 1 else zdropF dd due D
theorem zdropF_le (dd : Nat → Int32) (due : Int32) : ∀ D, zdropF dd due D ≤ D
  | 0 => Nat.le_refl _
  | D + 1 => by
    unfold zdropF
    have := zdropF_le dd due D
    split <;> omega
theorem zup (ξ : Nat → Nat → Int32) (a k : Nat) (v : Int32) : zu ξ a k v a = upd (ξ a) k v := by unfold zu; rw [if_pos rfl]
theorem zun {ξ : Nat → Nat → Int32} {a k a' : Nat} {v : Int32} (h : a' ≠ a) : zu ξ a k v a' = ξ a' := by unfold zu; rw [if_neg h]
theorem zuu (ξ : Nat → Nat → Int32) (a k : Nat) (v v2 : Int32) : zu (zu ξ a k v) a k v2 = zu ξ a k v2 := by
  funext a2 k2
  rw [zu_eq, zu_eq, zu_eq]
  split <;> simp_all
set_option maxRecDepth 20000 in
set_option maxHeartbeats 1000000 in
theorem c_dropDates {S : Nat × (Nat → Int32)} {d n : Nat} {ξ : Nat → Nat → Int32} {ρ : zRho} {b D : Nat} (hb : zisC b) (hD : ξ b 4 = nI D) (h3 : D ≤ 3) : Zc S (d + 1) jX0_dropDatesNotBelowDue [.ref b] (zWof n ξ ρ) (fun r w => r = none ∧ w = zWof n (zu ξ b 4 (nI (zdropF (ξ (b + 2)) (ξ (b + 1) 0) D))) ρ) := by
  refine Zc_in (q := (0, 0, 0, 0, 1, 0, 0, zk_X0_dropDatesNotBelowDue)) rfl (Nat.le_of_ble_eq_true rfl) (L := [_]) rfl ?_
  have n1 : b + 1 ≠ b := by omega
  have n2 : b + 2 ≠ b := by omega
  have hw0 : zWof n ξ ρ = zWof n (zu ξ b 4 (nI D)) ρ := by
    congr 1
    funext a k
    rw [zu_eq]
    split
    · rename_i q
      rw [q.1, q.2, hD]
    · rfl
  rw [hw0]
  have key : ∀ (k : Nat) (i : Nat), i = k → i ≤ D → zdropF (ξ (b + 2)) (ξ (b + 1) 0) D = zdropF (ξ (b + 2)) (ξ (b + 1) 0) i →  Zw S (Zc S d) 0 false 0 zk_X0_dropDatesNotBelowDue (fun r w => r = none ∧ w = zWof n (zu ξ b 4 (nI (zdropF (ξ (b + 2)) (ξ (b + 1) 0) D))) ρ) (0, [some (.ref b)], [], (0, 0), zWof n (zu ξ b 4 (nI i)) ρ) := by
    intro k
    induction k using Nat.strongRecOn with
    | ind k ih =>
      intro i hk h2 e3
      have a4 : zu ξ b 4 (nI i) b 4 = nI i := zu_same _ _ _ _
      have a2 : zu ξ b 4 (nI i) (b + 2) = ξ (b + 2) := zun n2
      have a1 : zu ξ b 4 (nI i) (b + 1) = ξ (b + 1) := zun n1
      refine zr_aload_n 1 rfl rfl rfl trivial ?_
      refine zr_getf 4 rfl rfl rfl (zc_co hb) rfl ?_
      rw [a4]
      refine zr_if_le 40 7 rfl rfl (by decide) (fun c4z => ?_) (fun c4z => ?_)
      · have c4p : i = 0 := by
          rcases Nat.eq_zero_or_pos i with h | h
          · exact h
          · exact absurd c4z (nI_nle h (by omega))
        refine zr_ret rfl rfl ?_
        exact ⟨rfl, by rw [e3, c4p]; rfl⟩
      · have c4p : ¬ i = 0 := fun h => c4z (by rw [h]; decide)
        obtain ⟨i2, rfl⟩ : ∃ z, i = z + 1 := ⟨i - 1, by have := c4p; omega⟩
        refine zr_aload_n 8 rfl rfl rfl trivial ?_
        refine zr_getf 11 rfl rfl rfl (zc_co hb) rfl ?_
        refine zr_aload_n 12 rfl rfl rfl trivial ?_
        refine zr_getf 15 rfl rfl rfl (zc_co hb) rfl ?_
        refine zr_iconst 16 (x := 1) rfl rfl (by decide) ?_
        refine zr_isub 17 rfl rfl ?_
        rw [a4, nI_pred]
        refine zr_iald 18 rfl rfl (zc_c2 hb) (nI_clamp (by omega)) (vp_in_nI (by omega) (by omega)) ?_
        rw [a2]
        refine zr_aload_n 19 rfl rfl rfl trivial ?_
        refine zr_getf 22 rfl rfl rfl (zc_co hb) rfl ?_
        refine zr_iconst 23 (x := 0) rfl rfl (by decide) ?_
        refine zr_iald 24 (i := 0) rfl rfl (zc_c1 hb) (by decide) (by unfold vp_in; decide) ?_
        rw [a1]
        refine zr_icmp_lt 40 27 rfl rfl (by decide) (fun c24z => ?_) (fun c24z => ?_)
        · refine zr_ret rfl rfl ?_
          exact ⟨rfl, by rw [e3, zdropF, if_pos c24z]⟩
        · refine zr_aload_n 28 rfl rfl rfl trivial ?_
          refine zr_dup 29 rfl rfl rfl ?_
          refine zr_getf 32 rfl rfl rfl (zc_co hb) rfl ?_
          refine zr_iconst 33 (x := 1) rfl rfl (by decide) ?_
          refine zr_isub 34 rfl rfl ?_
          rw [a4, nI_pred]
          refine zr_putf 37 rfl rfl rfl (zc_co hb) (Nat.le_of_ble_eq_true rfl) rfl trivial (fun h => by cases h) (zs_co hb 4 (by decide) _) ?_
          refine zr_goto 0 rfl (by decide) ?_
          rw [zuu]
          exact ih i2 (by omega) i2 rfl (by omega) (by rw [e3, zdropF, if_neg c24z])
  exact key D D rfl (by omega) rfl
