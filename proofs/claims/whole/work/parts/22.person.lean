def zb (p : Prop) [Decidable p] : Int32 := if p then 1 else 0
theorem zb_01 (p : Prop) [Decidable p] : zb p = 0 ∨ zb p = 1 := by
  unfold zb
  by_cases h : p
  · rw [if_pos h]; exact Or.inr rfl
  · rw [if_neg h]; exact Or.inl rfl
theorem zb_0 {p : Prop} [Decidable p] : zb p = 0 ↔ ¬ p := by
  unfold zb
  by_cases h : p
  · rw [if_pos h]; exact ⟨fun h => absurd h (by decide), fun h2 => absurd h h2⟩
  · rw [if_neg h]; exact ⟨fun _ => h, fun _ => rfl⟩
theorem zb_n0 {p : Prop} [Decidable p] : ¬ zb p = 0 ↔ p := by rw [zb_0]; exact Decidable.not_not
theorem zb_t {p : Prop} [Decidable p] (h : p) : zb p = 1 := if_pos h
theorem zb_f {p : Prop} [Decidable p] (h : ¬ p) : zb p = 0 := if_neg h
theorem zb_c {p q : Prop} [Decidable p] [Decidable q] (h : p ↔ q) : zb p = zb q := by
  unfold zb
  by_cases hp : p
  · rw [if_pos hp, if_pos (h.mp hp)]
  · rw [if_neg hp, if_neg (fun hq => hp (h.mpr hq))]
theorem zne_i {x k : Int32} (h : ¬ x = k) : x.toInt ≠ k.toInt := fun e => h (Int32.toInt_inj.mp e)

set_option maxRecDepth 20000 in
set_option maxHeartbeats 1000000 in
theorem c_hasHanded {S : Nat × (Nat → Int32)} {d n : Nat} {ξ : Nat → Nat → Int32} {ρ : zRho} {p : Nat} (hp : zisP p) : Zc S (d + 1) jX1_hasHanded [.ref p] (zWof n ξ ρ) (fun r w => r = some (.int (zb (¬ ξ p 5 = -9))) ∧ w = zWof n ξ ρ) := by
  refine Zc_in (q := (1, 0, 3, 0, 1, 0, 0, zk_X1_hasHanded)) rfl (Nat.le_of_ble_eq_true rfl) (L := [_]) rfl ?_
  refine zr_aload_n 1 rfl rfl rfl trivial ?_
  refine zr_getf 4 rfl rfl rfl (zc_pe hp) rfl ?_
  refine zr_bipush 6 (x := (-9)) rfl rfl (by decide) ?_
  refine zr_icmp_eq 13 9 rfl rfl (by decide) (fun c6z => ?_) (fun c6z => ?_)
  · refine zr_iconst 14 (x := 0) rfl rfl (by decide) ?_
    refine zr_zret rfl rfl (Or.inl rfl) ?_
    refine ⟨?_, rfl⟩
    first | (simp [zb, *]; done) | grind [zb]
  · refine zr_iconst 10 (x := 1) rfl rfl (by decide) ?_
    refine zr_goto 14 rfl (by decide) ?_
    refine zr_zret rfl rfl (Or.inr rfl) ?_
    refine ⟨?_, rfl⟩
    first | (simp [zb, *]; done) | grind [zb]
set_option maxRecDepth 20000 in
set_option maxHeartbeats 1000000 in
theorem c_isIllOn {S : Nat × (Nat → Int32)} {d n : Nat} {ξ : Nat → Nat → Int32} {ρ : zRho} {p : Nat} (hp : zisP p) (day : Int32) : Zc S (d + 1) jX1_isIllOn [.ref p, .int day] (zWof n ξ ρ) (fun r w => r = some (.int (zb (day < 30 ∧ ξ p 4 >>> (day &&& 31) &&& 1 = 1))) ∧ w = zWof n ξ ρ) := by
  refine Zc_in (q := (1, 0, 3, 1, 2, 0, 0, zk_X1_isIllOn)) rfl (Nat.le_of_ble_eq_true rfl) (L := [_, _]) rfl ?_
  refine zr_iload_n 1 rfl rfl rfl ?_
  refine zr_bipush 3 (x := 30) rfl rfl (by decide) ?_
  refine zr_icmp_ge 22 6 rfl rfl (by decide) (fun c3z => ?_) (fun c3z => ?_)
  · refine zr_iconst 23 (x := 0) rfl rfl (by decide) ?_
    refine zr_zret rfl rfl (Or.inl rfl) ?_
    refine ⟨?_, rfl⟩
    first | (simp [zb, *]; done) | grind [zb]
  · refine zr_aload_n 7 rfl rfl rfl trivial ?_
    refine zr_getf 10 rfl rfl rfl (zc_pe hp) rfl ?_
    refine zr_iload_n 11 rfl rfl rfl ?_
    refine zr_ishr 12 rfl rfl ?_
    refine zr_iconst 13 (x := 1) rfl rfl (by decide) ?_
    refine zr_iand 14 rfl rfl ?_
    refine zr_iconst 15 (x := 1) rfl rfl (by decide) ?_
    refine zr_icmp_ne 22 18 rfl rfl (by decide) (fun c15z => ?_) (fun c15z => ?_)
    · refine zr_iconst 23 (x := 0) rfl rfl (by decide) ?_
      refine zr_zret rfl rfl (Or.inl rfl) ?_
      refine ⟨?_, rfl⟩
      first | (simp [zb, *]; done) | grind [zb]
    · refine zr_iconst 19 (x := 1) rfl rfl (by decide) ?_
      refine zr_goto 23 rfl (by decide) ?_
      refine zr_zret rfl rfl (Or.inr rfl) ?_
      refine ⟨?_, rfl⟩
      first | (simp [zb, *]; done) | grind [zb]
set_option maxRecDepth 20000 in
set_option maxHeartbeats 1000000 in
theorem c_hoursOfPart {S : Nat × (Nat → Int32)} {d n : Nat} {ξ : Nat → Nat → Int32} {ρ : zRho} {p : Nat} (hp : zisP p) (part : Int32) : Zc S (d + 1) jX1_hoursOfPart [.ref p, .int part] (zWof n ξ ρ) (fun r w => r = some (.int (ξ p 2 * part / 100)) ∧ w = zWof n ξ ρ) := by
  refine Zc_in (q := (1, 0, 1, 1, 2, 0, 0, zk_X1_hoursOfPart)) rfl (Nat.le_of_ble_eq_true rfl) (L := [_, _]) rfl ?_
  refine zr_aload_n 1 rfl rfl rfl trivial ?_
  refine zr_getf 4 rfl rfl rfl (zc_pe hp) rfl ?_
  refine zr_iload_n 5 rfl rfl rfl ?_
  refine zr_imul 6 rfl rfl ?_
  refine zr_bipush 8 (x := 100) rfl rfl (by decide) ?_
  refine zr_idiv 9 rfl rfl (by decide) ?_
  refine zr_iret rfl rfl ?_
  exact ⟨rfl, rfl⟩
set_option maxRecDepth 20000 in
set_option maxHeartbeats 1000000 in
theorem c_start {S : Nat × (Nat → Int32)} {d n : Nat} {ξ : Nat → Nat → Int32} {ρ : zRho} {p : Nat} (hp : zisP p) (kd a wk : Int32) : Zc S (d + 1) jX1_start [.ref p, .int kd, .int a, .int wk] (zWof n ξ ρ) (fun r w => r = none ∧ w = zWof n (zu (zu (zu (zu (zu (zu (zu ξ p 0 kd) p 1 a) p 2 wk) p 3 0) p 4 0) p 5 (-9)) p 6 0) ρ) := by
  refine Zc_in (q := (1, 0, 0, 3, 4, 0, 0, zk_X1_start)) rfl (Nat.le_of_ble_eq_true rfl) (L := [_, _, _, _]) rfl ?_
  refine zr_aload_n 1 rfl rfl rfl trivial ?_
  refine zr_iload_n 2 rfl rfl rfl ?_
  refine zr_putf 5 rfl rfl rfl (zc_pe hp) (Nat.le_of_ble_eq_true rfl) rfl trivial (fun h => by cases h) (zs_pe hp 0 (by decide) _) ?_
  refine zr_aload_n 6 rfl rfl rfl trivial ?_
  refine zr_iload_n 7 rfl rfl rfl ?_
  refine zr_putf 10 rfl rfl rfl (zc_pe hp) (Nat.le_of_ble_eq_true rfl) rfl trivial (fun h => by cases h) (zs_pe hp 1 (by decide) _) ?_
  refine zr_aload_n 11 rfl rfl rfl trivial ?_
  refine zr_iload_n 12 rfl rfl rfl ?_
  refine zr_putf 15 rfl rfl rfl (zc_pe hp) (Nat.le_of_ble_eq_true rfl) rfl trivial (fun h => by cases h) (zs_pe hp 2 (by decide) _) ?_
  refine zr_aload_n 16 rfl rfl rfl trivial ?_
  refine zr_iconst 17 (x := 0) rfl rfl (by decide) ?_
  refine zr_putf 20 rfl rfl rfl (zc_pe hp) (Nat.le_of_ble_eq_true rfl) rfl trivial (fun h => by cases h) (zs_pe hp 3 (by decide) _) ?_
  refine zr_aload_n 21 rfl rfl rfl trivial ?_
  refine zr_iconst 22 (x := 0) rfl rfl (by decide) ?_
  refine zr_putf 25 rfl rfl rfl (zc_pe hp) (Nat.le_of_ble_eq_true rfl) rfl trivial (fun h => by cases h) (zs_pe hp 4 (by decide) _) ?_
  refine zr_aload_n 26 rfl rfl rfl trivial ?_
  refine zr_bipush 28 (x := (-9)) rfl rfl (by decide) ?_
  refine zr_putf 31 rfl rfl rfl (zc_pe hp) (Nat.le_of_ble_eq_true rfl) rfl trivial (fun h => by cases h) (zs_pe hp 5 (by decide) _) ?_
  refine zr_aload_n 32 rfl rfl rfl trivial ?_
  refine zr_iconst 33 (x := 0) rfl rfl (by decide) ?_
  refine zr_putf 36 rfl rfl rfl (zc_pe hp) (Nat.le_of_ble_eq_true rfl) rfl trivial (fun h => by cases h) (zs_pe hp 6 (by decide) _) ?_
  refine zr_ret rfl rfl ?_
  exact ⟨rfl, rfl⟩
set_option maxRecDepth 20000 in
set_option maxHeartbeats 1000000 in
theorem c_copyPerson {S : Nat × (Nat → Int32)} {d n : Nat} {ξ : Nat → Nat → Int32} {ρ : zRho} {p q : Nat} (hp : zisP p) (hq : zisP q) (hne : q ≠ p) : Zc S (d + 1) jX1_copyFrom [.ref p, .ref q] (zWof n ξ ρ) (fun r w => r = none ∧ ∃ ξ2, w = zWof n ξ2 ρ ∧ (∀ k, k < 7 → ξ2 p k = ξ q k) ∧ ∀ a k, a ≠ p → ξ2 a k = ξ a k) := by
  refine Zc_in (q := (1, 0, 0, 1, 2, 0, 0, zk_X1_copyFrom)) rfl (Nat.le_of_ble_eq_true rfl) (L := [_, _]) rfl ?_
  refine zr_aload_n 1 rfl rfl rfl trivial ?_
  refine zr_aload_n 2 rfl rfl rfl trivial ?_
  refine zr_getf 5 rfl rfl rfl (zc_pe hq) rfl ?_
  refine zr_putf 8 rfl rfl rfl (zc_pe hp) (Nat.le_of_ble_eq_true rfl) rfl trivial (fun h => by cases h) (zs_pe hp 0 (by decide) _) ?_
  refine zr_aload_n 9 rfl rfl rfl trivial ?_
  refine zr_aload_n 10 rfl rfl rfl trivial ?_
  refine zr_getf 13 rfl rfl rfl (zc_pe hq) rfl ?_
  refine zr_putf 16 rfl rfl rfl (zc_pe hp) (Nat.le_of_ble_eq_true rfl) rfl trivial (fun h => by cases h) (zs_pe hp 1 (by decide) _) ?_
  refine zr_aload_n 17 rfl rfl rfl trivial ?_
  refine zr_aload_n 18 rfl rfl rfl trivial ?_
  refine zr_getf 21 rfl rfl rfl (zc_pe hq) rfl ?_
  refine zr_putf 24 rfl rfl rfl (zc_pe hp) (Nat.le_of_ble_eq_true rfl) rfl trivial (fun h => by cases h) (zs_pe hp 2 (by decide) _) ?_
  refine zr_aload_n 25 rfl rfl rfl trivial ?_
  refine zr_aload_n 26 rfl rfl rfl trivial ?_
  refine zr_getf 29 rfl rfl rfl (zc_pe hq) rfl ?_
  refine zr_putf 32 rfl rfl rfl (zc_pe hp) (Nat.le_of_ble_eq_true rfl) rfl trivial (fun h => by cases h) (zs_pe hp 3 (by decide) _) ?_
  refine zr_aload_n 33 rfl rfl rfl trivial ?_
  refine zr_aload_n 34 rfl rfl rfl trivial ?_
  refine zr_getf 37 rfl rfl rfl (zc_pe hq) rfl ?_
  refine zr_putf 40 rfl rfl rfl (zc_pe hp) (Nat.le_of_ble_eq_true rfl) rfl trivial (fun h => by cases h) (zs_pe hp 4 (by decide) _) ?_
  refine zr_aload_n 41 rfl rfl rfl trivial ?_
  refine zr_aload_n 42 rfl rfl rfl trivial ?_
  refine zr_getf 45 rfl rfl rfl (zc_pe hq) rfl ?_
  refine zr_putf 48 rfl rfl rfl (zc_pe hp) (Nat.le_of_ble_eq_true rfl) rfl trivial (fun h => by cases h) (zs_pe hp 5 (by decide) _) ?_
  refine zr_aload_n 49 rfl rfl rfl trivial ?_
  refine zr_aload_n 50 rfl rfl rfl trivial ?_
  refine zr_getf 53 rfl rfl rfl (zc_pe hq) rfl ?_
  refine zr_putf 56 rfl rfl rfl (zc_pe hp) (Nat.le_of_ble_eq_true rfl) rfl trivial (fun h => by cases h) (zs_pe hp 6 (by decide) _) ?_
  refine zr_ret rfl rfl ?_
  refine ⟨rfl, _, rfl, fun k hk => ?_, fun a k ha => ?_⟩
  · rcases (by omega : k = 0 ∨ k = 1 ∨ k = 2 ∨ k = 3 ∨ k = 4 ∨ k = 5 ∨ k = 6) with rfl | rfl | rfl | rfl | rfl | rfl | rfl <;> simp [zu_eq, hne]
  · simp [zu_eq, ha]
theorem zrf_ps {b i : Nat} (h : i < 6) : va_rf (zpsf b i) = .ref (b + 5 + i) := by
  unfold zpsf
  rw [if_pos h]
  rfl
theorem zP {b i : Nat} (hb : zisC b) (hi : i < 6) : zisP (b + 5 + i) := ⟨b, i, hb, hi, rfl⟩
/-! what the document says of a day, in plain functions; dd, dp: the DATES' days and parts -/
def zgoalF (dd dp : Nat → Int32) (work done day : Int32) : Nat → Nat → Nat
  | 0, i => i
  | n + 1, i => if day ≤ dd i ∧ done < work * dp i / 100 then i else zgoalF dd dp work done day n (i + 1)
theorem zgoalF_le (dd dp : Nat → Int32) (work done day : Int32) : ∀ n i, i ≤ zgoalF dd dp work done day n i ∧ zgoalF dd dp work done day n i ≤ i + n
  | 0, i => ⟨Nat.le_refl _, Nat.le_refl _⟩
  | n + 1, i => by
    unfold zgoalF
    have := zgoalF_le dd dp work done day n (i + 1)
    split <;> omega
def zgdayF (dd : Nat → Int32) (D : Nat) (due : Int32) (i : Nat) : Int32 := if i < D then dd i else due
def zghrsF (dp : Nat → Int32) (D : Nat) (work : Int32) (i : Nat) : Int32 := if i < D then work * dp i / 100 else work
def ztogoF (gd day : Int32) : Int32 := if 1 < gd - day + 1 then gd - day + 1 else 1
def zminI (x y : Int32) : Int32 := if y < x then y else x
def zwantF (kind a most day left tg : Int32) : Int32 :=
  if kind = 1 then (if left + a ≤ most * (tg - 1) then 0 else most) else if kind = 3 then (if left ≤ most * (tg - 1) then 0 else most) else if kind = 2 then 2 * left / (tg + 1) + 1
  else if kind = 4 then (left + tg - 1) / tg else if kind = 5 then (if day * 7 + a - (day * 7 + a) / 3 * 3 = 0 then 0 else a + 1) else a + 1
def zillF (ill day : Int32) : Prop := day < 30 ∧ ill >>> (day &&& 31) &&& 1 = 1
/-- the HOURS of one who has not handed in and is not ill -/
def zworkF (dd dp : Nat → Int32) (D : Nat) (due most kind a work done day : Int32) : Int32 :=
  zminI (zminI (zwantF kind a most day (zghrsF dp D work (zgoalF dd dp work done day D 0) - done) (ztogoF (zgdayF dd D due (zgoalF dd dp work done day D 0)) day)) most) (work - done)
set_option maxRecDepth 20000 in
set_option maxHeartbeats 1000000 in
theorem c_hasDateOn {S : Nat × (Nat → Int32)} {d n : Nat} {ξ : Nat → Nat → Int32} {ρ : zRho} {b D : Nat} (hb : zisC b) (hD : ξ b 4 = nI D) (h3 : D ≤ 3) (day : Int32) : Zc S (d + 1) jX0_hasDateOn [.ref b, .int day] (zWof n ξ ρ) (fun r w => r = some (.int (zb (∃ i, i < D ∧ ξ (b + 2) i = day))) ∧ w = zWof n ξ ρ) := by
  refine Zc_in (q := (0, 0, 3, 1, 3, 0, 0, zk_X0_hasDateOn)) rfl (Nat.le_of_ble_eq_true rfl) (L := [_, _, _]) rfl ?_
  have key : ∀ (k : Nat) (i : Nat), D - i = k → i ≤ D → (∀ j, j < i → ξ (b + 2) j ≠ day) →  Zw S (Zc S d) 0 false 3 zk_X0_hasDateOn (fun r w => r = some (.int (zb (∃ i, i < D ∧ ξ (b + 2) i = day))) ∧ w = zWof n ξ ρ) (2, [some (.ref b), some (.int day), some (.int (nI i))], [], (0, 0), zWof n ξ ρ) := by
    intro k
    induction k using Nat.strongRecOn with
    | ind k ih =>
      intro i hk h2 h4
      refine zr_iload_n 3 rfl rfl rfl ?_
      refine zr_aload_n 4 rfl rfl rfl trivial ?_
      refine zr_getf 7 rfl rfl rfl (zc_co hb) rfl ?_
      refine zr_icmp_ge 28 10 rfl rfl (by decide) (fun c7z => ?_) (fun c7z => ?_)
      · rw [hD, nI_leI (by omega) (by omega)] at c7z
        refine zr_iconst 29 (x := 0) rfl rfl (by decide) ?_
        refine zr_zret rfl rfl (Or.inl rfl) ?_
        refine ⟨?_, rfl⟩
        rw [zb_f]
        rintro ⟨j, hj, e⟩
        exact h4 j (by omega) e
      · rw [hD, nI_leI (by omega) (by omega)] at c7z
        refine zr_aload_n 11 rfl rfl rfl trivial ?_
        refine zr_getf 14 rfl rfl rfl (zc_co hb) rfl ?_
        refine zr_iload_n 15 rfl rfl rfl ?_
        refine zr_iald 16 rfl rfl (zc_c2 hb) (nI_clamp (by omega)) (vp_in_nI (by omega) (by omega)) ?_
        refine zr_iload_n 17 rfl rfl rfl ?_
        refine zr_icmp_ne 22 20 rfl rfl (by decide) (fun c17z => ?_) (fun c17z => ?_)
        · refine zr_iinc 25 (c0 := 1) (L2 := [_, _, _]) rfl rfl rfl (by first | exact trivial | exact rfl) (by decide) rfl ?_
          refine zr_goto 2 rfl (by decide) ?_
          rw [nI_1]
          exact ih _ (by omega) (i + 1) rfl (by omega) (fun j hj => by
            rcases Nat.lt_succ_iff_lt_or_eq.mp hj with h | rfl
            · exact h4 j h
            · exact c17z)
        · refine zr_iconst 21 (x := 1) rfl rfl (by decide) ?_
          refine zr_zret rfl rfl (Or.inr rfl) ?_
          exact ⟨by rw [zb_t ⟨i, by omega, c17z⟩], rfl⟩
  refine zr_iconst 1 (x := 0) rfl rfl (by decide) ?_
  refine zr_istore_n 2 (L2 := [_, _, _]) rfl rfl (Nat.le_of_ble_eq_true rfl) (by first | exact trivial | exact rfl) rfl ?_
  exact key D 0 rfl (by omega) (fun j hj => by omega)
set_option maxRecDepth 20000 in
set_option maxHeartbeats 1000000 in
theorem c_goalIndex {S : Nat × (Nat → Int32)} {d n : Nat} {ξ : Nat → Nat → Int32} {ρ : zRho} {b p D : Nat} (hb : zisC b) (hp : zisP p) (hD : ξ b 4 = nI D) (h3 : D ≤ 3) (day : Int32) : Zc S (d + 2) jX0_goalIndex [.ref b, .ref p, .int day] (zWof n ξ ρ) (fun r w => r = some (.int (nI (zgoalF (ξ (b + 2)) (ξ (b + 3)) (ξ p 2) (ξ p 3) day D 0))) ∧ w = zWof n ξ ρ) := by
  refine Zc_in (q := (0, 0, 1, 2, 4, 0, 0, zk_X0_goalIndex)) rfl (Nat.le_of_ble_eq_true rfl) (L := [_, _, _, _]) rfl ?_
  have key : ∀ (k : Nat) (i : Nat), D - i = k → i ≤ D → zgoalF (ξ (b + 2)) (ξ (b + 3)) (ξ p 2) (ξ p 3) day D 0 = zgoalF (ξ (b + 2)) (ξ (b + 3)) (ξ p 2) (ξ p 3) day (D - i) i →  Zw S (Zc S (d + 1)) 0 false 1 zk_X0_goalIndex (fun r w => r = some (.int (nI (zgoalF (ξ (b + 2)) (ξ (b + 3)) (ξ p 2) (ξ p 3) day D 0))) ∧ w = zWof n ξ ρ) (2, [some (.ref b), some (.ref p), some (.int day), some (.int (nI i))], [], (0, 0), zWof n ξ ρ) := by
    intro k
    induction k using Nat.strongRecOn with
    | ind k ih =>
      intro i hk h2 h4
      refine zr_iload_n 3 rfl rfl rfl ?_
      refine zr_aload_n 4 rfl rfl rfl trivial ?_
      refine zr_getf 7 rfl rfl rfl (zc_co hb) rfl ?_
      refine zr_icmp_ge 45 10 rfl rfl (by decide) (fun c7z => ?_) (fun c7z => ?_)
      · rw [hD, nI_leI (by omega) (by omega)] at c7z
        refine zr_aload_n 46 rfl rfl rfl trivial ?_
        refine zr_getf 49 rfl rfl rfl (zc_co hb) rfl ?_
        refine zr_iret rfl rfl ?_
        refine ⟨?_, rfl⟩
        rw [h4, show D - i = 0 by omega, zgoalF, hD, show i = D by omega]
      · rw [hD, nI_leI (by omega) (by omega)] at c7z
        refine zr_aload_n 11 rfl rfl rfl trivial ?_
        refine zr_getf 14 rfl rfl rfl (zc_co hb) rfl ?_
        refine zr_iload_n 15 rfl rfl rfl ?_
        refine zr_iald 16 rfl rfl (zc_c2 hb) (nI_clamp (by omega)) (vp_in_nI (by omega) (by omega)) ?_
        refine zr_iload_n 17 rfl rfl rfl ?_
        refine zr_icmp_lt 39 20 rfl rfl (by decide) (fun c17z => ?_) (fun c17z => ?_)
        · refine zr_iinc 42 (c0 := 1) (L2 := [_, _, _, _]) rfl rfl rfl (by first | exact trivial | exact rfl) (by decide) rfl ?_
          refine zr_goto 2 rfl (by decide) ?_
          rw [nI_1]
          exact ih _ (by omega) (i + 1) rfl (by omega) (by
            rw [h4, show D - i = D - (i + 1) + 1 by omega, zgoalF, if_neg]
            rintro ⟨q1, q2⟩
            grind)
        · refine zr_aload_n 21 rfl rfl rfl trivial ?_
          refine zr_aload_n 22 rfl rfl rfl trivial ?_
          refine zr_getf 25 rfl rfl rfl (zc_co hb) rfl ?_
          refine zr_iload_n 26 rfl rfl rfl ?_
          refine zr_iald 27 rfl rfl (zc_c3 hb) (nI_clamp (by omega)) (vp_in_nI (by omega) (by omega)) ?_
          refine zr_callv 30 (As := [_]) (u2 := (0, 0)) rfl rfl rfl rfl rfl rfl rfl (Nat.le_of_ble_eq_true rfl) (Nat.le_of_ble_eq_true rfl) (Nat.le_of_ble_eq_true rfl) (zc_pe hp) (c_hoursOfPart hp _) rfl (fun v2 w2 h27z => ?_)
          obtain ⟨rfl, rfl⟩ := h27z
          refine zr_aload_n 31 rfl rfl rfl trivial ?_
          refine zr_getf 34 rfl rfl rfl (zc_pe hp) rfl ?_
          refine zr_icmp_le 39 37 rfl rfl (by decide) (fun c34z => ?_) (fun c34z => ?_)
          · refine zr_iinc 42 (c0 := 1) (L2 := [_, _, _, _]) rfl rfl rfl (by first | exact trivial | exact rfl) (by decide) rfl ?_
            refine zr_goto 2 rfl (by decide) ?_
            rw [nI_1]
            exact ih _ (by omega) (i + 1) rfl (by omega) (by
              rw [h4, show D - i = D - (i + 1) + 1 by omega, zgoalF, if_neg]
              rintro ⟨q1, q2⟩
              grind)
          · refine zr_iload_n 38 rfl rfl rfl ?_
            refine zr_iret rfl rfl ?_
            refine ⟨?_, rfl⟩
            rw [h4, show D - i = D - (i + 1) + 1 by omega, zgoalF, if_pos]
            grind
  refine zr_iconst 1 (x := 0) rfl rfl (by decide) ?_
  refine zr_istore_n 2 (L2 := [_, _, _, _]) rfl rfl (Nat.le_of_ble_eq_true rfl) (by first | exact trivial | exact rfl) rfl ?_
  exact key D 0 rfl (by omega) rfl
set_option maxRecDepth 20000 in
set_option maxHeartbeats 1000000 in
theorem c_goalDay {S : Nat × (Nat → Int32)} {d n : Nat} {ξ : Nat → Nat → Int32} {ρ : zRho} {b D i : Nat} (hb : zisC b) (hD : ξ b 4 = nI D) (h3 : D ≤ 3) (hi : i ≤ D) : Zc S (d + 1) jX0_goalDay [.ref b, .int (nI i)] (zWof n ξ ρ) (fun r w => r = some (.int (zgdayF (ξ (b + 2)) D (ξ (b + 1) 0) i)) ∧ w = zWof n ξ ρ) := by
  refine Zc_in (q := (0, 0, 1, 1, 2, 0, 0, zk_X0_goalDay)) rfl (Nat.le_of_ble_eq_true rfl) (L := [_, _]) rfl ?_
  refine zr_iload_n 1 rfl rfl rfl ?_
  refine zr_aload_n 2 rfl rfl rfl trivial ?_
  refine zr_getf 5 rfl rfl rfl (zc_co hb) rfl ?_
  refine zr_icmp_ge 17 8 rfl rfl (by decide) (fun c5z => ?_) (fun c5z => ?_)
  · rw [hD, nI_leI (by omega) (by omega)] at c5z
    refine zr_aload_n 18 rfl rfl rfl trivial ?_
    refine zr_getf 21 rfl rfl rfl (zc_co hb) rfl ?_
    refine zr_iconst 22 (x := 0) rfl rfl (by decide) ?_
    refine zr_iald 23 (i := 0) rfl rfl (zc_c1 hb) (by decide) (by unfold vp_in; decide) ?_
    refine zr_iret rfl rfl ?_
    refine ⟨?_, rfl⟩
    unfold zgdayF
    first | rw [if_pos (by omega)] | rw [if_neg (by omega)]
  · rw [hD, nI_leI (by omega) (by omega)] at c5z
    refine zr_aload_n 9 rfl rfl rfl trivial ?_
    refine zr_getf 12 rfl rfl rfl (zc_co hb) rfl ?_
    refine zr_iload_n 13 rfl rfl rfl ?_
    refine zr_iald 14 rfl rfl (zc_c2 hb) (nI_clamp (by omega)) (vp_in_nI (by omega) (by omega)) ?_
    refine zr_goto 23 rfl (by decide) ?_
    refine zr_iret rfl rfl ?_
    refine ⟨?_, rfl⟩
    unfold zgdayF
    first | rw [if_pos (by omega)] | rw [if_neg (by omega)]
set_option maxRecDepth 20000 in
set_option maxHeartbeats 1000000 in
theorem c_leftTo {S : Nat × (Nat → Int32)} {d n : Nat} {ξ : Nat → Nat → Int32} {ρ : zRho} {b p D i : Nat} (hb : zisC b) (hp : zisP p) (hD : ξ b 4 = nI D) (h3 : D ≤ 3) (hi : i ≤ D) : Zc S (d + 2) jX0_leftTo [.ref b, .int (nI i), .ref p] (zWof n ξ ρ) (fun r w => r = some (.int (zghrsF (ξ (b + 3)) D (ξ p 2) i - ξ p 3)) ∧ w = zWof n ξ ρ) := by
  refine Zc_in (q := (0, 0, 1, 2, 4, 0, 0, zk_X0_leftTo)) rfl (Nat.le_of_ble_eq_true rfl) (L := [_, _, _, _]) rfl ?_
  refine zr_iload_n 1 rfl rfl rfl ?_
  refine zr_aload_n 2 rfl rfl rfl trivial ?_
  refine zr_getf 5 rfl rfl rfl (zc_co hb) rfl ?_
  refine zr_icmp_ge 21 8 rfl rfl (by decide) (fun c5z => ?_) (fun c5z => ?_)
  · rw [hD, nI_leI (by omega) (by omega)] at c5z
    refine zr_aload_n 22 rfl rfl rfl trivial ?_
    refine zr_getf 25 rfl rfl rfl (zc_pe hp) rfl ?_
    refine zr_istore_n 26 (L2 := [_, _, _, _]) rfl rfl (Nat.le_of_ble_eq_true rfl) (by first | exact trivial | exact rfl) rfl ?_
    refine zr_iload_n 27 rfl rfl rfl ?_
    refine zr_aload_n 28 rfl rfl rfl trivial ?_
    refine zr_getf 31 rfl rfl rfl (zc_pe hp) rfl ?_
    refine zr_isub 32 rfl rfl ?_
    refine zr_iret rfl rfl ?_
    refine ⟨?_, rfl⟩
    unfold zghrsF
    first | rw [if_pos (by omega)] | rw [if_neg (by omega)]
  · rw [hD, nI_leI (by omega) (by omega)] at c5z
    refine zr_aload_n 9 rfl rfl rfl trivial ?_
    refine zr_aload_n 10 rfl rfl rfl trivial ?_
    refine zr_getf 13 rfl rfl rfl (zc_co hb) rfl ?_
    refine zr_iload_n 14 rfl rfl rfl ?_
    refine zr_iald 15 rfl rfl (zc_c3 hb) (nI_clamp (by omega)) (vp_in_nI (by omega) (by omega)) ?_
    refine zr_callv 18 (As := [_]) (u2 := (0, 0)) rfl rfl rfl rfl rfl rfl rfl (Nat.le_of_ble_eq_true rfl) (Nat.le_of_ble_eq_true rfl) (Nat.le_of_ble_eq_true rfl) (zc_pe hp) (c_hoursOfPart hp _) rfl (fun v2 w2 h15z => ?_)
    obtain ⟨rfl, rfl⟩ := h15z
    refine zr_goto 25 rfl (by decide) ?_
    refine zr_istore_n 26 (L2 := [_, _, _, _]) rfl rfl (Nat.le_of_ble_eq_true rfl) (by first | exact trivial | exact rfl) rfl ?_
    refine zr_iload_n 27 rfl rfl rfl ?_
    refine zr_aload_n 28 rfl rfl rfl trivial ?_
    refine zr_getf 31 rfl rfl rfl (zc_pe hp) rfl ?_
    refine zr_isub 32 rfl rfl ?_
    refine zr_iret rfl rfl ?_
    refine ⟨?_, rfl⟩
    unfold zghrsF
    first | rw [if_pos (by omega)] | rw [if_neg (by omega)]
set_option maxRecDepth 20000 in
set_option maxHeartbeats 1000000 in
theorem c_toGo {S : Nat × (Nat → Int32)} {d n : Nat} {ξ : Nat → Nat → Int32} {ρ : zRho} {b D i : Nat} (hb : zisC b) (hD : ξ b 4 = nI D) (h3 : D ≤ 3) (hi : i ≤ D) (day : Int32) : Zc S (d + 2) jX0_toGo [.ref b, .int (nI i), .int day] (zWof n ξ ρ) (fun r w => r = some (.int (ztogoF (zgdayF (ξ (b + 2)) D (ξ (b + 1) 0) i) day)) ∧ w = zWof n ξ ρ) := by
  refine Zc_in (q := (0, 0, 1, 2, 3, 0, 0, zk_X0_toGo)) rfl (Nat.le_of_ble_eq_true rfl) (L := [_, _, _]) rfl ?_
  refine zr_iconst 1 (x := 1) rfl rfl (by decide) ?_
  refine zr_aload_n 2 rfl rfl rfl trivial ?_
  refine zr_iload_n 3 rfl rfl rfl ?_
  refine zr_callv 6 (As := [_]) (u2 := (0, 0)) rfl rfl rfl rfl rfl rfl rfl (Nat.le_of_ble_eq_true rfl) (Nat.le_of_ble_eq_true rfl) (Nat.le_of_ble_eq_true rfl) (zc_co hb) (c_goalDay hb hD h3 hi) rfl (fun v2 w2 h3z => ?_)
  obtain ⟨rfl, rfl⟩ := h3z
  refine zr_iload_n 7 rfl rfl rfl ?_
  refine zr_isub 8 rfl rfl ?_
  refine zr_iconst 9 (x := 1) rfl rfl (by decide) ?_
  refine zr_iadd 10 rfl rfl ?_
  refine zr_max 13 rfl rfl rfl (Nat.le_of_ble_eq_true rfl) rfl ?_
  refine zr_iret rfl rfl ?_
  exact ⟨rfl, rfl⟩
set_option maxRecDepth 20000 in
set_option maxHeartbeats 1000000 in
theorem c_wantedHours {S : Nat × (Nat → Int32)} {d n : Nat} {ξ : Nat → Nat → Int32} {ρ : zRho} {b p : Nat} (hb : zisC b) (hp : zisP p) (day left tg : Int32) (ht : ¬ tg = 0) (ht1 : ¬ tg + 1 = 0) : Zc S (d + 1) jX0_wantedHours [.ref b, .ref p, .int day, .int left, .int tg] (zWof n ξ ρ) (fun r w => r = some (.int (zwantF (ξ p 0) (ξ p 1) (ξ (b + 1) 1) day left tg)) ∧ w = zWof n ξ ρ) := by
  refine Zc_in (q := (0, 0, 1, 4, 6, 0, 0, zk_X0_wantedHours)) rfl (Nat.le_of_ble_eq_true rfl) (L := [_, _, _, _, _, _]) rfl ?_
  refine zr_aload_n 1 rfl rfl rfl trivial ?_
  refine zr_getf 4 rfl rfl rfl (zc_co hb) rfl ?_
  refine zr_iconst 5 (x := 1) rfl rfl (by decide) ?_
  refine zr_iald 6 (i := 1) rfl rfl (zc_c1 hb) (by decide) (by unfold vp_in; decide) ?_
  refine zr_istore 8 (L2 := [_, _, _, _, _, _]) rfl rfl (Nat.le_of_ble_eq_true rfl) (by first | exact trivial | exact rfl) rfl ?_
  refine zr_aload_n 9 rfl rfl rfl trivial ?_
  refine zr_getf 12 rfl rfl rfl (zc_pe hp) rfl ?_
  by_cases s12_1 : ξ p 0 = 1
  · refine zr_tsw_in 48 0 rfl (by rw [s12_1]; decide) (by decide) rfl (by decide) ?_
    refine zr_iload_n 49 rfl rfl rfl ?_
    refine zr_aload_n 50 rfl rfl rfl trivial ?_
    refine zr_getf 53 rfl rfl rfl (zc_pe hp) rfl ?_
    refine zr_iadd 54 rfl rfl ?_
    refine zr_iload 56 rfl rfl rfl ?_
    refine zr_iload 58 rfl rfl rfl ?_
    refine zr_iconst 59 (x := 1) rfl rfl (by decide) ?_
    refine zr_isub 60 rfl rfl ?_
    refine zr_imul 61 rfl rfl ?_
    refine zr_icmp_le 69 64 rfl rfl (by decide) (fun c61z => ?_) (fun c61z => ?_)
    · refine zr_iconst 70 (x := 0) rfl rfl (by decide) ?_
      refine zr_iret rfl rfl ?_
      refine ⟨?_, rfl⟩
      unfold zwantF
      simp [*]
    · refine zr_iload 66 rfl rfl rfl ?_
      refine zr_goto 70 rfl (by decide) ?_
      refine zr_iret rfl rfl ?_
      refine ⟨?_, rfl⟩
      unfold zwantF
      simp [*]
  by_cases s12_2 : ξ p 0 = 2
  · refine zr_tsw_in 89 1 rfl (by rw [s12_2]; decide) (by decide) rfl (by decide) ?_
    refine zr_iconst 90 (x := 2) rfl rfl (by decide) ?_
    refine zr_iload_n 91 rfl rfl rfl ?_
    refine zr_imul 92 rfl rfl ?_
    refine zr_iload 94 rfl rfl rfl ?_
    refine zr_iconst 95 (x := 1) rfl rfl (by decide) ?_
    refine zr_iadd 96 rfl rfl ?_
    refine zr_idiv 97 rfl rfl (by assumption) ?_
    refine zr_iconst 98 (x := 1) rfl rfl (by decide) ?_
    refine zr_iadd 99 rfl rfl ?_
    refine zr_iret rfl rfl ?_
    refine ⟨?_, rfl⟩
    unfold zwantF
    simp [*]
  by_cases s12_3 : ξ p 0 = 3
  · refine zr_tsw_in 71 2 rfl (by rw [s12_3]; decide) (by decide) rfl (by decide) ?_
    refine zr_iload_n 72 rfl rfl rfl ?_
    refine zr_iload 74 rfl rfl rfl ?_
    refine zr_iload 76 rfl rfl rfl ?_
    refine zr_iconst 77 (x := 1) rfl rfl (by decide) ?_
    refine zr_isub 78 rfl rfl ?_
    refine zr_imul 79 rfl rfl ?_
    refine zr_icmp_le 87 82 rfl rfl (by decide) (fun c79z => ?_) (fun c79z => ?_)
    · refine zr_iconst 88 (x := 0) rfl rfl (by decide) ?_
      refine zr_iret rfl rfl ?_
      refine ⟨?_, rfl⟩
      unfold zwantF
      simp [*]
    · refine zr_iload 84 rfl rfl rfl ?_
      refine zr_goto 88 rfl (by decide) ?_
      refine zr_iret rfl rfl ?_
      refine ⟨?_, rfl⟩
      unfold zwantF
      simp [*]
  by_cases s12_4 : ξ p 0 = 4
  · refine zr_tsw_in 100 3 rfl (by rw [s12_4]; decide) (by decide) rfl (by decide) ?_
    refine zr_iload_n 101 rfl rfl rfl ?_
    refine zr_iload 103 rfl rfl rfl ?_
    refine zr_iadd 104 rfl rfl ?_
    refine zr_iconst 105 (x := 1) rfl rfl (by decide) ?_
    refine zr_isub 106 rfl rfl ?_
    refine zr_iload 108 rfl rfl rfl ?_
    refine zr_idiv 109 rfl rfl (by assumption) ?_
    refine zr_iret rfl rfl ?_
    refine ⟨?_, rfl⟩
    unfold zwantF
    simp [*]
  by_cases s12_5 : ξ p 0 = 5
  · refine zr_tsw_in 110 4 rfl (by rw [s12_5]; decide) (by decide) rfl (by decide) ?_
    refine zr_iload_n 111 rfl rfl rfl ?_
    refine zr_bipush 113 (x := 7) rfl rfl (by decide) ?_
    refine zr_imul 114 rfl rfl ?_
    refine zr_aload_n 115 rfl rfl rfl trivial ?_
    refine zr_getf 118 rfl rfl rfl (zc_pe hp) rfl ?_
    refine zr_iadd 119 rfl rfl ?_
    refine zr_iconst 120 (x := 3) rfl rfl (by decide) ?_
    refine zr_irem 121 rfl rfl (by decide) ?_
    refine zr_if_ne 128 124 rfl rfl (by decide) (fun c121z => ?_) (fun c121z => ?_)
    · refine zr_aload_n 129 rfl rfl rfl trivial ?_
      refine zr_getf 132 rfl rfl rfl (zc_pe hp) rfl ?_
      refine zr_iconst 133 (x := 1) rfl rfl (by decide) ?_
      refine zr_iadd 134 rfl rfl ?_
      refine zr_iret rfl rfl ?_
      refine ⟨?_, rfl⟩
      unfold zwantF
      simp [*]
    · refine zr_iconst 125 (x := 0) rfl rfl (by decide) ?_
      refine zr_goto 134 rfl (by decide) ?_
      refine zr_iret rfl rfl ?_
      refine ⟨?_, rfl⟩
      unfold zwantF
      simp [*]
  refine zr_tsw_out 135 rfl (by have q0 := zne_i s12_1; have q1 := zne_i s12_2; have q2 := zne_i s12_3; have q3 := zne_i s12_4; have q4 := zne_i s12_5; rw [show (1 : Int32).toInt = 1 by decide] at q0; rw [show (2 : Int32).toInt = 2 by decide] at q1; rw [show (3 : Int32).toInt = 3 by decide] at q2; rw [show (4 : Int32).toInt = 4 by decide] at q3; rw [show (5 : Int32).toInt = 5 by decide] at q4; omega) (by decide) ?_
  refine zr_aload_n 136 rfl rfl rfl trivial ?_
  refine zr_getf 139 rfl rfl rfl (zc_pe hp) rfl ?_
  refine zr_iconst 140 (x := 1) rfl rfl (by decide) ?_
  refine zr_iadd 141 rfl rfl ?_
  refine zr_iret rfl rfl ?_
  refine ⟨?_, rfl⟩
  unfold zwantF
  simp [*]
theorem zI0 : (0 : Int32).toInt = 0 := by decide
theorem zI1 : (1 : Int32).toInt = 1 := by decide
theorem ztogo_pos {gd day : Int32} (h1 : 0 ≤ day.toInt) (h2 : day.toInt ≤ 100) (h3 : 0 ≤ gd.toInt) (h4 : gd.toInt ≤ 100) : ¬ ztogoF gd day = 0 ∧ ¬ ztogoF gd day + 1 = 0 := by
  have e1 : (gd - day).toInt = gd.toInt - day.toInt := Jvm.Kit.i32_sub (by omega) (by omega)
  have e2 : (gd - day + 1).toInt = gd.toInt - day.toInt + 1 := by
    rw [Jvm.Kit.i32_add (by rw [e1, zI1]; omega) (by rw [e1, zI1]; omega), e1, zI1]
  have key : 1 ≤ (ztogoF gd day).toInt ∧ (ztogoF gd day).toInt ≤ 200 := by
    unfold ztogoF
    split
    · rename_i h
      rw [Int32.lt_iff_toInt_lt, zI1] at h
      omega
    · rw [zI1]
      omega
  constructor
  · intro h
    rw [h, zI0] at key
    omega
  · intro h
    have : (ztogoF gd day + 1).toInt = (ztogoF gd day).toInt + 1 := by
      rw [Jvm.Kit.i32_add (by rw [zI1]; omega) (by rw [zI1]; omega), zI1]
    rw [h, zI0] at this
    omega
set_option maxRecDepth 20000 in
set_option maxHeartbeats 1000000 in
theorem c_hoursOn {S : Nat × (Nat → Int32)} {d n : Nat} {ξ : Nat → Nat → Int32} {ρ : zRho} {b p D : Nat} (hb : zisC b) (hp : zisP p) (hD : ξ b 4 = nI D) (h3 : D ≤ 3) (day : Int32) (hz : ∀ i, ¬ ztogoF (zgdayF (ξ (b + 2)) D (ξ (b + 1) 0) i) day = 0 ∧ ¬ ztogoF (zgdayF (ξ (b + 2)) D (ξ (b + 1) 0) i) day + 1 = 0) : Zc S (d + 3) jX0_hoursOn [.ref b, .ref p, .int day] (zWof n ξ ρ) (fun r w => r = some (.int (if ¬ ξ p 5 = -9 ∨ (day < 30 ∧ ξ p 4 >>> (day &&& 31) &&& 1 = 1) then 0 else zworkF (ξ (b + 2)) (ξ (b + 3)) D (ξ (b + 1) 0) (ξ (b + 1) 1) (ξ p 0) (ξ p 1) (ξ p 2) (ξ p 3) day)) ∧ w = zWof n ξ ρ) := by
  refine Zc_in (q := (0, 0, 1, 2, 5, 0, 0, zk_X0_hoursOn)) rfl (Nat.le_of_ble_eq_true rfl) (L := [_, _, _, _, _]) rfl ?_
  refine zr_aload_n 1 rfl rfl rfl trivial ?_
  refine zr_callv 4 (As := []) (u2 := (0, 0)) rfl rfl rfl rfl rfl rfl rfl (Nat.le_of_ble_eq_true rfl) (Nat.le_of_ble_eq_true rfl) (Nat.le_of_ble_eq_true rfl) (zc_pe hp) (c_hasHanded hp) rfl (fun v2 w2 h1z => ?_)
  obtain ⟨rfl, rfl⟩ := h1z
  refine zr_if_ne 15 7 rfl rfl (by decide) (fun c4z => ?_) (fun c4z => ?_)
  · replace c4z := zb_n0.mp c4z
    refine zr_iconst 16 (x := 0) rfl rfl (by decide) ?_
    refine zr_iret rfl rfl ?_
    exact ⟨congrArg (fun z => some (Value.int z)) (if_pos (by first | exact Or.inl (by assumption) | exact Or.inr (by assumption))).symm, rfl⟩
  · replace c4z := zb_0.mp c4z
    refine zr_aload_n 8 rfl rfl rfl trivial ?_
    refine zr_iload_n 9 rfl rfl rfl ?_
    refine zr_callv 12 (As := [_]) (u2 := (0, 0)) rfl rfl rfl rfl rfl rfl rfl (Nat.le_of_ble_eq_true rfl) (Nat.le_of_ble_eq_true rfl) (Nat.le_of_ble_eq_true rfl) (zc_pe hp) (c_isIllOn hp _) rfl (fun v2 w2 h9z => ?_)
    obtain ⟨rfl, rfl⟩ := h9z
    refine zr_if_eq 17 15 rfl rfl (by decide) (fun c12z => ?_) (fun c12z => ?_)
    · replace c12z := zb_0.mp c12z
      refine zr_aload_n 18 rfl rfl rfl trivial ?_
      refine zr_aload_n 19 rfl rfl rfl trivial ?_
      refine zr_iload_n 20 rfl rfl rfl ?_
      refine zr_callv 23 (As := [_, _]) (u2 := (0, 0)) rfl rfl rfl rfl rfl rfl rfl (Nat.le_of_ble_eq_true rfl) (Nat.le_of_ble_eq_true rfl) (Nat.le_of_ble_eq_true rfl) (zc_co hb) (c_goalIndex hb hp hD h3 _) rfl (fun v2 w2 h20z => ?_)
      obtain ⟨rfl, rfl⟩ := h20z
      refine zr_istore_n 24 (L2 := [_, _, _, _, _]) rfl rfl (Nat.le_of_ble_eq_true rfl) (by first | exact trivial | exact rfl) rfl ?_
      have hi := (zgoalF_le (ξ (b + 2)) (ξ (b + 3)) (ξ p 2) (ξ p 3) day D 0).2
      rw [Nat.zero_add] at hi
      obtain ⟨ht, ht1⟩ := hz (zgoalF (ξ (b + 2)) (ξ (b + 3)) (ξ p 2) (ξ p 3) day D 0)
      refine zr_aload_n 25 rfl rfl rfl trivial ?_
      refine zr_aload_n 26 rfl rfl rfl trivial ?_
      refine zr_iload_n 27 rfl rfl rfl ?_
      refine zr_aload_n 28 rfl rfl rfl trivial ?_
      refine zr_iload_n 29 rfl rfl rfl ?_
      refine zr_aload_n 30 rfl rfl rfl trivial ?_
      refine zr_callv 33 (As := [_, _]) (u2 := (0, 0)) rfl rfl rfl rfl rfl rfl rfl (Nat.le_of_ble_eq_true rfl) (Nat.le_of_ble_eq_true rfl) (Nat.le_of_ble_eq_true rfl) (zc_co hb) (c_leftTo hb hp hD h3 hi) rfl (fun v2 w2 h30z => ?_)
      obtain ⟨rfl, rfl⟩ := h30z
      refine zr_aload_n 34 rfl rfl rfl trivial ?_
      refine zr_iload_n 35 rfl rfl rfl ?_
      refine zr_iload_n 36 rfl rfl rfl ?_
      refine zr_callv 39 (As := [_, _]) (u2 := (0, 0)) rfl rfl rfl rfl rfl rfl rfl (Nat.le_of_ble_eq_true rfl) (Nat.le_of_ble_eq_true rfl) (Nat.le_of_ble_eq_true rfl) (zc_co hb) (c_toGo hb hD h3 hi _) rfl (fun v2 w2 h36z => ?_)
      obtain ⟨rfl, rfl⟩ := h36z
      refine zr_callv 42 (As := [_, _, _, _]) (u2 := (0, 0)) rfl rfl rfl rfl rfl rfl rfl (Nat.le_of_ble_eq_true rfl) (Nat.le_of_ble_eq_true rfl) (Nat.le_of_ble_eq_true rfl) (zc_co hb) (c_wantedHours hb hp _ _ _ ht ht1) rfl (fun v2 w2 h39z => ?_)
      obtain ⟨rfl, rfl⟩ := h39z
      refine zr_istore 44 (L2 := [_, _, _, _, _]) rfl rfl (Nat.le_of_ble_eq_true rfl) (by first | exact trivial | exact rfl) rfl ?_
      refine zr_iload 46 rfl rfl rfl ?_
      refine zr_aload_n 47 rfl rfl rfl trivial ?_
      refine zr_getf 50 rfl rfl rfl (zc_co hb) rfl ?_
      refine zr_iconst 51 (x := 1) rfl rfl (by decide) ?_
      refine zr_iald 52 (i := 1) rfl rfl (zc_c1 hb) (by decide) (by unfold vp_in; decide) ?_
      refine zr_min 55 rfl rfl rfl (Nat.le_of_ble_eq_true rfl) rfl ?_
      refine zr_aload_n 56 rfl rfl rfl trivial ?_
      refine zr_getf 59 rfl rfl rfl (zc_pe hp) rfl ?_
      refine zr_aload_n 60 rfl rfl rfl trivial ?_
      refine zr_getf 63 rfl rfl rfl (zc_pe hp) rfl ?_
      refine zr_isub 64 rfl rfl ?_
      refine zr_min 67 rfl rfl rfl (Nat.le_of_ble_eq_true rfl) rfl ?_
      refine zr_iret rfl rfl ?_
      exact ⟨congrArg (fun z => some (Value.int z)) (if_neg (fun h => h.elim (fun h => absurd h (by assumption)) (fun h => absurd h (by assumption)))).symm, rfl⟩
    · replace c12z := zb_n0.mp c12z
      refine zr_iconst 16 (x := 0) rfl rfl (by decide) ?_
      refine zr_iret rfl rfl ?_
      exact ⟨congrArg (fun z => some (Value.int z)) (if_pos (by first | exact Or.inl (by assumption) | exact Or.inr (by assumption))).symm, rfl⟩
/-- how many DATES of this day are missed, from i on, n more are there -/
def zmissF (dd dp : Nat → Int32) (work done day : Int32) : Nat → Nat → Int32 → Int32
  | 0, _, m => m
  | n + 1, i, m => zmissF dd dp work done day n (i + 1) (if dd i = day ∧ done < work * dp i / 100 then m + 1 else m)
/-- the hours of a day -/
def zhrsF (dd dp : Nat → Int32) (D : Nat) (due most kind a work done ill day : Int32) : Int32 := if day < 30 ∧ ill >>> (day &&& 31) &&& 1 = 1 then 0 else zworkF dd dp D due most kind a work done day
/-- one who has not handed in, behind a day: done, missed, handed -/
def zdoneF (dd dp : Nat → Int32) (D : Nat) (due most kind a work done ill day : Int32) : Int32 := done + zhrsF dd dp D due most kind a work done ill day
theorem zPC {b p k : Nat} (hb : zisC b) (hp : zisP p) (hk : k < 5) : b + k ≠ p := by
  obtain ⟨b2, i, hb2, hi, rfl⟩ := hp
  rcases hb with rfl | rfl | rfl <;> rcases hb2 with rfl | rfl | rfl <;> omega
set_option maxRecDepth 20000 in
set_option maxHeartbeats 1000000 in
theorem c_liveDay {S : Nat × (Nat → Int32)} {d n : Nat} {ξ : Nat → Nat → Int32} {ρ : zRho} {b p D : Nat} (hb : zisC b) (hp : zisP p) (hD : ξ b 4 = nI D) (h3 : D ≤ 3) (day : Int32) (hz : ∀ i, ¬ ztogoF (zgdayF (ξ (b + 2)) D (ξ (b + 1) 0) i) day = 0 ∧ ¬ ztogoF (zgdayF (ξ (b + 2)) D (ξ (b + 1) 0) i) day + 1 = 0) : Zc S (d + 4) jX0_liveDay [.ref b, .ref p, .int day] (zWof n ξ ρ) (fun r w => r = some (.int (if ξ p 5 = -9 then zhrsF (ξ (b + 2)) (ξ (b + 3)) D (ξ (b + 1) 0) (ξ (b + 1) 1) (ξ p 0) (ξ p 1) (ξ p 2) (ξ p 3) (ξ p 4) day else 0)) ∧ ∃ ξ2, w = zWof n ξ2 ρ ∧ (∀ a k, a ≠ p → ξ2 a k = ξ a k) ∧ (∀ k, k ≠ 3 → k ≠ 5 → k ≠ 6 → ξ2 p k = ξ p k) ∧ (¬ ξ p 5 = -9 → ξ2 p 3 = ξ p 3 ∧ ξ2 p 5 = ξ p 5 ∧ ξ2 p 6 = ξ p 6) ∧ (ξ p 5 = -9 → ξ2 p 3 = zdoneF (ξ (b + 2)) (ξ (b + 3)) D (ξ (b + 1) 0) (ξ (b + 1) 1) (ξ p 0) (ξ p 1) (ξ p 2) (ξ p 3) (ξ p 4) day ∧ ξ2 p 6 = zmissF (ξ (b + 2)) (ξ (b + 3)) (ξ p 2) (ξ2 p 3) day D 0 (ξ p 6) ∧ ξ2 p 5 = if ξ p 2 ≤ ξ2 p 3 then day else -9)) := by
  refine Zc_in (q := (0, 0, 1, 2, 5, 0, 0, zk_X0_liveDay)) rfl (Nat.le_of_ble_eq_true rfl) (L := [_, _, _, _, _]) rfl ?_
  have n0 := zPC hb hp (k := 0) (by decide)
  have n1 := zPC hb hp (k := 1) (by decide)
  have n2 := zPC hb hp (k := 2) (by decide)
  have n3 := zPC hb hp (k := 3) (by decide)
  rw [Nat.add_zero] at n0
  have key : ∀ (k : Nat) (i : Nat) (hrs : Int32) (ξ1 : Nat → Nat → Int32), D - i = k → i ≤ D → (∀ a k, a ≠ p → ξ1 a k = ξ a k) → (∀ k, k ≠ 3 → k ≠ 6 → ξ1 p k = ξ p k) → ξ p 5 = -9 → hrs = zhrsF (ξ (b + 2)) (ξ (b + 3)) D (ξ (b + 1) 0) (ξ (b + 1) 1) (ξ p 0) (ξ p 1) (ξ p 2) (ξ p 3) (ξ p 4) day → ξ1 p 3 = ξ p 3 + hrs → zmissF (ξ (b + 2)) (ξ (b + 3)) (ξ p 2) (ξ1 p 3) day D 0 (ξ p 6) = zmissF (ξ (b + 2)) (ξ (b + 3)) (ξ p 2) (ξ1 p 3) day (D - i) i (ξ1 p 6) →  Zw S (Zc S (d + 3)) 0 false 1 zk_X0_liveDay (fun r w => r = some (.int (if ξ p 5 = -9 then zhrsF (ξ (b + 2)) (ξ (b + 3)) D (ξ (b + 1) 0) (ξ (b + 1) 1) (ξ p 0) (ξ p 1) (ξ p 2) (ξ p 3) (ξ p 4) day else 0)) ∧ ∃ ξ2, w = zWof n ξ2 ρ ∧ (∀ a k, a ≠ p → ξ2 a k = ξ a k) ∧ (∀ k, k ≠ 3 → k ≠ 5 → k ≠ 6 → ξ2 p k = ξ p k) ∧ (¬ ξ p 5 = -9 → ξ2 p 3 = ξ p 3 ∧ ξ2 p 5 = ξ p 5 ∧ ξ2 p 6 = ξ p 6) ∧ (ξ p 5 = -9 → ξ2 p 3 = zdoneF (ξ (b + 2)) (ξ (b + 3)) D (ξ (b + 1) 0) (ξ (b + 1) 1) (ξ p 0) (ξ p 1) (ξ p 2) (ξ p 3) (ξ p 4) day ∧ ξ2 p 6 = zmissF (ξ (b + 2)) (ξ (b + 3)) (ξ p 2) (ξ2 p 3) day D 0 (ξ p 6) ∧ ξ2 p 5 = if ξ p 2 ≤ ξ2 p 3 then day else -9)) (29, [some (.ref b), some (.ref p), some (.int day), some (.int hrs), some (.int (nI i))], [], (0, 0), zWof n ξ1 ρ) := by
    intro k
    induction k using Nat.strongRecOn with
    | ind k ih =>
      intro i hrs ξ1 hk h2 f1 f2 e0 e1 e2 e3
      have hD1 : ξ1 b 4 = nI D := by rw [f1 b 4 n0]; exact hD
      have g2 : ξ1 (b + 2) i = ξ (b + 2) i := f1 _ _ n2
      have g3 : ξ1 (b + 3) i = ξ (b + 3) i := f1 _ _ n3
      have g4 : ξ1 p 2 = ξ p 2 := f2 2 (by decide) (by decide)
      refine zr_iload 31 rfl rfl rfl ?_
      refine zr_aload_n 32 rfl rfl rfl trivial ?_
      refine zr_getf 35 rfl rfl rfl (zc_co hb) rfl ?_
      refine zr_icmp_ge 83 38 rfl rfl (by decide) (fun c35z => ?_) (fun c35z => ?_)
      · rw [hD1, nI_leI (by omega) (by omega)] at c35z
        refine zr_aload_n 84 rfl rfl rfl trivial ?_
        refine zr_getf 87 rfl rfl rfl (zc_pe hp) rfl ?_
        refine zr_aload_n 88 rfl rfl rfl trivial ?_
        refine zr_getf 91 rfl rfl rfl (zc_pe hp) rfl ?_
        refine zr_icmp_lt 99 94 rfl rfl (by decide) (fun c91z => ?_) (fun c91z => ?_)
        · refine zr_iload_n 100 rfl rfl rfl ?_
          refine zr_iret rfl rfl ?_
          refine ⟨by rw [if_pos e0, e1], ξ1, rfl, f1, fun k q3 q5 q6 => f2 k q3 q6, fun h => absurd e0 h, fun _ => ⟨?_, ?_, ?_⟩⟩
          · unfold zdoneF
            rw [e2, e1]
          · rw [e3, show D - i = 0 by omega, zmissF]
          · rw [if_neg (by rw [← g4]; exact Int32.not_le.mpr (by assumption)), f2 5 (by decide) (by decide), e0]
        · refine zr_aload_n 95 rfl rfl rfl trivial ?_
          refine zr_iload_n 96 rfl rfl rfl ?_
          refine zr_putf 99 rfl rfl rfl (zc_pe hp) (Nat.le_of_ble_eq_true rfl) rfl trivial (fun h => by cases h) (zs_pe hp 5 (by decide) _) ?_
          refine zr_iload_n 100 rfl rfl rfl ?_
          refine zr_iret rfl rfl ?_
          refine ⟨by rw [if_pos e0, e1], _, rfl, fun a k ha => by rw [zu_ne (Or.inl ha)]; exact f1 a k ha, fun k q3 q5 q6 => by rw [zu_ne (Or.inr q5)]; exact f2 k q3 q6, fun h => absurd e0 h, fun _ => ⟨?_, ?_, ?_⟩⟩
          · unfold zdoneF
            rw [zu_ne (Or.inr (by decide)), e2, e1]
          · rw [zu_ne (Or.inr (by decide)), zu_ne (Or.inr (by decide)), e3, show D - i = 0 by omega, zmissF]
          · rw [zu_same, zu_ne (Or.inr (by decide)), if_pos]
            rw [← g4]
            exact Int32.not_lt.mp (by assumption)
      · rw [hD1, nI_leI (by omega) (by omega)] at c35z
        refine zr_aload_n 39 rfl rfl rfl trivial ?_
        refine zr_getf 42 rfl rfl rfl (zc_co hb) rfl ?_
        refine zr_iload 44 rfl rfl rfl ?_
        refine zr_iald 45 rfl rfl (zc_c2 hb) (nI_clamp (by omega)) (vp_in_nI (by omega) (by omega)) ?_
        refine zr_iload_n 46 rfl rfl rfl ?_
        refine zr_icmp_ne 77 49 rfl rfl (by decide) (fun c46z => ?_) (fun c46z => ?_)
        · refine zr_iinc 80 (c0 := 1) (L2 := [_, _, _, _, _]) rfl rfl rfl (by first | exact trivial | exact rfl) (by decide) rfl ?_
          refine zr_goto 29 rfl (by decide) ?_
          rw [nI_1]
          exact ih _ (by omega) (i + 1) hrs ξ1 rfl (by omega) f1 f2 e0 e1 e2 (by
            rw [e3, show D - i = D - (i + 1) + 1 by omega, zmissF, if_neg]
            rintro ⟨q1, q2⟩
            first | exact absurd q1 (by rw [← g2]; assumption) | (rw [← g3, ← g4] at q2; exact absurd q2 (Int32.not_lt.mpr (by assumption))))
        · refine zr_aload_n 50 rfl rfl rfl trivial ?_
          refine zr_getf 53 rfl rfl rfl (zc_pe hp) rfl ?_
          refine zr_aload_n 54 rfl rfl rfl trivial ?_
          refine zr_aload_n 55 rfl rfl rfl trivial ?_
          refine zr_getf 58 rfl rfl rfl (zc_co hb) rfl ?_
          refine zr_iload 60 rfl rfl rfl ?_
          refine zr_iald 61 rfl rfl (zc_c3 hb) (nI_clamp (by omega)) (vp_in_nI (by omega) (by omega)) ?_
          refine zr_callv 64 (As := [_]) (u2 := (0, 0)) rfl rfl rfl rfl rfl rfl rfl (Nat.le_of_ble_eq_true rfl) (Nat.le_of_ble_eq_true rfl) (Nat.le_of_ble_eq_true rfl) (zc_pe hp) (c_hoursOfPart hp _) rfl (fun v2 w2 h61z => ?_)
          obtain ⟨rfl, rfl⟩ := h61z
          refine zr_icmp_ge 77 67 rfl rfl (by decide) (fun c64z => ?_) (fun c64z => ?_)
          · refine zr_iinc 80 (c0 := 1) (L2 := [_, _, _, _, _]) rfl rfl rfl (by first | exact trivial | exact rfl) (by decide) rfl ?_
            refine zr_goto 29 rfl (by decide) ?_
            rw [nI_1]
            exact ih _ (by omega) (i + 1) hrs ξ1 rfl (by omega) f1 f2 e0 e1 e2 (by
              rw [e3, show D - i = D - (i + 1) + 1 by omega, zmissF, if_neg]
              rintro ⟨q1, q2⟩
              first | exact absurd q1 (by rw [← g2]; assumption) | (rw [← g3, ← g4] at q2; exact absurd q2 (Int32.not_lt.mpr (by assumption))))
          · refine zr_aload_n 68 rfl rfl rfl trivial ?_
            refine zr_dup 69 rfl rfl rfl ?_
            refine zr_getf 72 rfl rfl rfl (zc_pe hp) rfl ?_
            refine zr_iconst 73 (x := 1) rfl rfl (by decide) ?_
            refine zr_iadd 74 rfl rfl ?_
            refine zr_putf 77 rfl rfl rfl (zc_pe hp) (Nat.le_of_ble_eq_true rfl) rfl trivial (fun h => by cases h) (zs_pe hp 6 (by decide) _) ?_
            refine zr_iinc 80 (c0 := 1) (L2 := [_, _, _, _, _]) rfl rfl rfl (by first | exact trivial | exact rfl) (by decide) rfl ?_
            refine zr_goto 29 rfl (by decide) ?_
            rw [nI_1]
            refine ih _ (by omega) (i + 1) hrs _ rfl (by omega) (fun a k ha => by rw [zu_ne (Or.inl ha)]; exact f1 a k ha) (fun k h3 h6 => by rw [zu_ne (Or.inr h6)]; exact f2 k h3 h6) e0 e1 (by rw [zu_ne (Or.inr (by decide))]; exact e2) (by
              rw [zu_same, zu_ne (Or.inr (by decide)), e3, show D - i = D - (i + 1) + 1 by omega, zmissF, if_pos]
              rw [← g2, ← g3, ← g4]
              exact ⟨by assumption, Int32.not_le.mp (by assumption)⟩)
  refine zr_aload_n 1 rfl rfl rfl trivial ?_
  refine zr_callv 4 (As := []) (u2 := (0, 0)) rfl rfl rfl rfl rfl rfl rfl (Nat.le_of_ble_eq_true rfl) (Nat.le_of_ble_eq_true rfl) (Nat.le_of_ble_eq_true rfl) (zc_pe hp) (c_hasHanded hp) rfl (fun v2 w2 h1z => ?_)
  obtain ⟨rfl, rfl⟩ := h1z
  refine zr_if_eq 9 7 rfl rfl (by decide) (fun c4z => ?_) (fun c4z => ?_)
  · replace c4z := zb_0.mp c4z
    refine zr_aload_n 10 rfl rfl rfl trivial ?_
    refine zr_aload_n 11 rfl rfl rfl trivial ?_
    refine zr_iload_n 12 rfl rfl rfl ?_
    refine zr_callv 15 (As := [_, _]) (u2 := (0, 0)) rfl rfl rfl rfl rfl rfl rfl (Nat.le_of_ble_eq_true rfl) (Nat.le_of_ble_eq_true rfl) (Nat.le_of_ble_eq_true rfl) (zc_co hb) (c_hoursOn hb hp hD h3 _ hz) rfl (fun v2 w2 h12z => ?_)
    obtain ⟨rfl, rfl⟩ := h12z
    refine zr_istore_n 16 (L2 := [_, _, _, _, _]) rfl rfl (Nat.le_of_ble_eq_true rfl) (by first | exact trivial | exact rfl) rfl ?_
    refine zr_aload_n 17 rfl rfl rfl trivial ?_
    refine zr_dup 18 rfl rfl rfl ?_
    refine zr_getf 21 rfl rfl rfl (zc_pe hp) rfl ?_
    refine zr_iload_n 22 rfl rfl rfl ?_
    refine zr_iadd 23 rfl rfl ?_
    refine zr_putf 26 rfl rfl rfl (zc_pe hp) (Nat.le_of_ble_eq_true rfl) rfl trivial (fun h => by cases h) (zs_pe hp 3 (by decide) _) ?_
    refine zr_iconst 27 (x := 0) rfl rfl (by decide) ?_
    refine zr_istore 29 (L2 := [_, _, _, _, _]) rfl rfl (Nat.le_of_ble_eq_true rfl) (by first | exact trivial | exact rfl) rfl ?_
    have c0 := Decidable.not_not.mp c4z
    exact key _ 0 _ _ rfl (by omega) (fun a k ha => zu_ne (Or.inl ha)) (fun k q3 _ => zu_ne (Or.inr q3)) c0 (by unfold zhrsF; simp [c0]) (by rw [zu_same]) (by
      rw [Nat.sub_zero]
      congr 1
      exact (zu_ne (Or.inr (by decide))).symm)
  · replace c4z := zb_n0.mp c4z
    refine zr_iconst 8 (x := 0) rfl rfl (by decide) ?_
    refine zr_iret rfl rfl ?_
    refine ⟨by rw [if_neg c4z], ξ, rfl, fun a k _ => rfl, fun k _ _ _ => rfl, fun _ => ⟨rfl, rfl, rfl⟩, fun h => absurd h c4z⟩
