abbrev zρ1 (ρ : zRho) (v : Value) : zRho := (v, ρ.2.1, ρ.2.2.1, ρ.2.2.2.1, ρ.2.2.2.2.1, ρ.2.2.2.2.2)
theorem zcel_ρ1 (ρ : zRho) (v : Value) (a : Nat) (f : Nat → Int32) (h : a ≠ 34) : zcel (zρ1 ρ v) a f = zcel ρ a f := match a, h with
  | 0, _ => rfl
  | 1, _ => rfl
  | 2, _ => rfl
  | 3, _ => rfl
  | 4, _ => rfl
  | 5, _ => rfl
  | 6, _ => rfl
  | 7, _ => rfl
  | 8, _ => rfl
  | 9, _ => rfl
  | 10, _ => rfl
  | 11, _ => rfl
  | 12, _ => rfl
  | 13, _ => rfl
  | 14, _ => rfl
  | 15, _ => rfl
  | 16, _ => rfl
  | 17, _ => rfl
  | 18, _ => rfl
  | 19, _ => rfl
  | 20, _ => rfl
  | 21, _ => rfl
  | 22, _ => rfl
  | 23, _ => rfl
  | 24, _ => rfl
  | 25, _ => rfl
  | 26, _ => rfl
  | 27, _ => rfl
  | 28, _ => rfl
  | 29, _ => rfl
  | 30, _ => rfl
  | 31, _ => rfl
  | 32, _ => rfl
  | 33, _ => rfl
  | 34, h => absurd rfl h
  | 35, _ => rfl
  | 36, _ => rfl
  | 37, _ => rfl
  | 38, _ => rfl
  | 39, _ => rfl
  | 40, _ => rfl
  | 41, _ => rfl
  | 42, _ => rfl
  | 43, _ => rfl
  | 44, _ => rfl
  | 45, _ => rfl
  | 46, _ => rfl
  | 47, _ => rfl
  | 48, _ => rfl
  | 49, _ => rfl
  | 50, _ => rfl
  | 51, _ => rfl
  | 52, _ => rfl
  | 53, _ => rfl
  | 54, _ => rfl
  | 55, _ => rfl
  | 56, _ => rfl
  | 57, _ => rfl
  | 58, _ => rfl
  | 59, _ => rfl
  | 60, _ => rfl
  | 61, _ => rfl
  | 62, _ => rfl
  | 63, _ => rfl
  | 64, _ => rfl
  | 65, _ => rfl
  | 66, _ => rfl
  | 67, _ => rfl
  | 68, _ => rfl
  | 69, _ => rfl
  | _ + 70, _ => rfl
theorem zW_ρ1 {n : Nat} {ξ : Nat → Nat → Int32} {ρ : zRho} {v : Value} {e : va_E} (h : e = zcel (zρ1 ρ v) 34 (ξ 34)) : zset (zWof n ξ ρ) 34 e = zWof n ξ (zρ1 ρ v) := by
  subst h
  unfold zset zWof
  congr 1
  funext a
  by_cases q : a = 34
  · subst q
    simp [va_up]
  · simp only [va_up, q, if_false]
    exact (zcel_ρ1 ρ v a _ q).symm
abbrev zρw (ρ : zRho) (v : Int64) : zRho := (ρ.1, v, ρ.2.2.1, ρ.2.2.2.1, ρ.2.2.2.2.1, ρ.2.2.2.2.2)
theorem zcel_ρw (ρ : zRho) (v : Int64) (a : Nat) (f : Nat → Int32) (h : a ≠ 42) : zcel (zρw ρ v) a f = zcel ρ a f := match a, h with
  | 0, _ => rfl
  | 1, _ => rfl
  | 2, _ => rfl
  | 3, _ => rfl
  | 4, _ => rfl
  | 5, _ => rfl
  | 6, _ => rfl
  | 7, _ => rfl
  | 8, _ => rfl
  | 9, _ => rfl
  | 10, _ => rfl
  | 11, _ => rfl
  | 12, _ => rfl
  | 13, _ => rfl
  | 14, _ => rfl
  | 15, _ => rfl
  | 16, _ => rfl
  | 17, _ => rfl
  | 18, _ => rfl
  | 19, _ => rfl
  | 20, _ => rfl
  | 21, _ => rfl
  | 22, _ => rfl
  | 23, _ => rfl
  | 24, _ => rfl
  | 25, _ => rfl
  | 26, _ => rfl
  | 27, _ => rfl
  | 28, _ => rfl
  | 29, _ => rfl
  | 30, _ => rfl
  | 31, _ => rfl
  | 32, _ => rfl
  | 33, _ => rfl
  | 34, _ => rfl
  | 35, _ => rfl
  | 36, _ => rfl
  | 37, _ => rfl
  | 38, _ => rfl
  | 39, _ => rfl
  | 40, _ => rfl
  | 41, _ => rfl
  | 42, h => absurd rfl h
  | 43, _ => rfl
  | 44, _ => rfl
  | 45, _ => rfl
  | 46, _ => rfl
  | 47, _ => rfl
  | 48, _ => rfl
  | 49, _ => rfl
  | 50, _ => rfl
  | 51, _ => rfl
  | 52, _ => rfl
  | 53, _ => rfl
  | 54, _ => rfl
  | 55, _ => rfl
  | 56, _ => rfl
  | 57, _ => rfl
  | 58, _ => rfl
  | 59, _ => rfl
  | 60, _ => rfl
  | 61, _ => rfl
  | 62, _ => rfl
  | 63, _ => rfl
  | 64, _ => rfl
  | 65, _ => rfl
  | 66, _ => rfl
  | 67, _ => rfl
  | 68, _ => rfl
  | 69, _ => rfl
  | _ + 70, _ => rfl
theorem zW_ρw {n : Nat} {ξ : Nat → Nat → Int32} {ρ : zRho} {v : Int64} {e : va_E} (h : e = zcel (zρw ρ v) 42 (ξ 42)) : zset (zWof n ξ ρ) 42 e = zWof n ξ (zρw ρ v) := by
  subst h
  unfold zset zWof
  congr 1
  funext a
  by_cases q : a = 42
  · subst q
    simp [va_up]
  · simp only [va_up, q, if_false]
    exact (zcel_ρw ρ v a _ q).symm
abbrev zρm (ρ : zRho) (v : Nat → Int64) : zRho := (ρ.1, ρ.2.1, v, ρ.2.2.2.1, ρ.2.2.2.2.1, ρ.2.2.2.2.2)
theorem zcel_ρm (ρ : zRho) (v : Nat → Int64) (a : Nat) (f : Nat → Int32) (h : a ≠ 63) : zcel (zρm ρ v) a f = zcel ρ a f := match a, h with
  | 0, _ => rfl
  | 1, _ => rfl
  | 2, _ => rfl
  | 3, _ => rfl
  | 4, _ => rfl
  | 5, _ => rfl
  | 6, _ => rfl
  | 7, _ => rfl
  | 8, _ => rfl
  | 9, _ => rfl
  | 10, _ => rfl
  | 11, _ => rfl
  | 12, _ => rfl
  | 13, _ => rfl
  | 14, _ => rfl
  | 15, _ => rfl
  | 16, _ => rfl
  | 17, _ => rfl
  | 18, _ => rfl
  | 19, _ => rfl
  | 20, _ => rfl
  | 21, _ => rfl
  | 22, _ => rfl
  | 23, _ => rfl
  | 24, _ => rfl
  | 25, _ => rfl
  | 26, _ => rfl
  | 27, _ => rfl
  | 28, _ => rfl
  | 29, _ => rfl
  | 30, _ => rfl
  | 31, _ => rfl
  | 32, _ => rfl
  | 33, _ => rfl
  | 34, _ => rfl
  | 35, _ => rfl
  | 36, _ => rfl
  | 37, _ => rfl
  | 38, _ => rfl
  | 39, _ => rfl
  | 40, _ => rfl
  | 41, _ => rfl
  | 42, _ => rfl
  | 43, _ => rfl
  | 44, _ => rfl
  | 45, _ => rfl
  | 46, _ => rfl
  | 47, _ => rfl
  | 48, _ => rfl
  | 49, _ => rfl
  | 50, _ => rfl
  | 51, _ => rfl
  | 52, _ => rfl
  | 53, _ => rfl
  | 54, _ => rfl
  | 55, _ => rfl
  | 56, _ => rfl
  | 57, _ => rfl
  | 58, _ => rfl
  | 59, _ => rfl
  | 60, _ => rfl
  | 61, _ => rfl
  | 62, _ => rfl
  | 63, h => absurd rfl h
  | 64, _ => rfl
  | 65, _ => rfl
  | 66, _ => rfl
  | 67, _ => rfl
  | 68, _ => rfl
  | 69, _ => rfl
  | _ + 70, _ => rfl
theorem zW_ρm {n : Nat} {ξ : Nat → Nat → Int32} {ρ : zRho} {v : Nat → Int64} {e : va_E} (h : e = zcel (zρm ρ v) 63 (ξ 63)) : zset (zWof n ξ ρ) 63 e = zWof n ξ (zρm ρ v) := by
  subst h
  unfold zset zWof
  congr 1
  funext a
  by_cases q : a = 63
  · subst q
    simp [va_up]
  · simp only [va_up, q, if_false]
    exact (zcel_ρm ρ v a _ q).symm
abbrev zρs (ρ : zRho) (v : Nat → Option Nat) : zRho := (ρ.1, ρ.2.1, ρ.2.2.1, v, ρ.2.2.2.2.1, ρ.2.2.2.2.2)
theorem zcel_ρs (ρ : zRho) (v : Nat → Option Nat) (a : Nat) (f : Nat → Int32) (h : a ≠ 37) : zcel (zρs ρ v) a f = zcel ρ a f := match a, h with
  | 0, _ => rfl
  | 1, _ => rfl
  | 2, _ => rfl
  | 3, _ => rfl
  | 4, _ => rfl
  | 5, _ => rfl
  | 6, _ => rfl
  | 7, _ => rfl
  | 8, _ => rfl
  | 9, _ => rfl
  | 10, _ => rfl
  | 11, _ => rfl
  | 12, _ => rfl
  | 13, _ => rfl
  | 14, _ => rfl
  | 15, _ => rfl
  | 16, _ => rfl
  | 17, _ => rfl
  | 18, _ => rfl
  | 19, _ => rfl
  | 20, _ => rfl
  | 21, _ => rfl
  | 22, _ => rfl
  | 23, _ => rfl
  | 24, _ => rfl
  | 25, _ => rfl
  | 26, _ => rfl
  | 27, _ => rfl
  | 28, _ => rfl
  | 29, _ => rfl
  | 30, _ => rfl
  | 31, _ => rfl
  | 32, _ => rfl
  | 33, _ => rfl
  | 34, _ => rfl
  | 35, _ => rfl
  | 36, _ => rfl
  | 37, h => absurd rfl h
  | 38, _ => rfl
  | 39, _ => rfl
  | 40, _ => rfl
  | 41, _ => rfl
  | 42, _ => rfl
  | 43, _ => rfl
  | 44, _ => rfl
  | 45, _ => rfl
  | 46, _ => rfl
  | 47, _ => rfl
  | 48, _ => rfl
  | 49, _ => rfl
  | 50, _ => rfl
  | 51, _ => rfl
  | 52, _ => rfl
  | 53, _ => rfl
  | 54, _ => rfl
  | 55, _ => rfl
  | 56, _ => rfl
  | 57, _ => rfl
  | 58, _ => rfl
  | 59, _ => rfl
  | 60, _ => rfl
  | 61, _ => rfl
  | 62, _ => rfl
  | 63, _ => rfl
  | 64, _ => rfl
  | 65, _ => rfl
  | 66, _ => rfl
  | 67, _ => rfl
  | 68, _ => rfl
  | 69, _ => rfl
  | _ + 70, _ => rfl
theorem zW_ρs {n : Nat} {ξ : Nat → Nat → Int32} {ρ : zRho} {v : Nat → Option Nat} {e : va_E} (h : e = zcel (zρs ρ v) 37 (ξ 37)) : zset (zWof n ξ ρ) 37 e = zWof n ξ (zρs ρ v) := by
  subst h
  unfold zset zWof
  congr 1
  funext a
  by_cases q : a = 37
  · subst q
    simp [va_up]
  · simp only [va_up, q, if_false]
    exact (zcel_ρs ρ v a _ q).symm
abbrev zρl (ρ : zRho) (v : Nat → Option Nat) : zRho := (ρ.1, ρ.2.1, ρ.2.2.1, ρ.2.2.2.1, v, ρ.2.2.2.2.2)
theorem zcel_ρl (ρ : zRho) (v : Nat → Option Nat) (a : Nat) (f : Nat → Int32) (h : a ≠ 38) : zcel (zρl ρ v) a f = zcel ρ a f := match a, h with
  | 0, _ => rfl
  | 1, _ => rfl
  | 2, _ => rfl
  | 3, _ => rfl
  | 4, _ => rfl
  | 5, _ => rfl
  | 6, _ => rfl
  | 7, _ => rfl
  | 8, _ => rfl
  | 9, _ => rfl
  | 10, _ => rfl
  | 11, _ => rfl
  | 12, _ => rfl
  | 13, _ => rfl
  | 14, _ => rfl
  | 15, _ => rfl
  | 16, _ => rfl
  | 17, _ => rfl
  | 18, _ => rfl
  | 19, _ => rfl
  | 20, _ => rfl
  | 21, _ => rfl
  | 22, _ => rfl
  | 23, _ => rfl
  | 24, _ => rfl
  | 25, _ => rfl
  | 26, _ => rfl
  | 27, _ => rfl
  | 28, _ => rfl
  | 29, _ => rfl
  | 30, _ => rfl
  | 31, _ => rfl
  | 32, _ => rfl
  | 33, _ => rfl
  | 34, _ => rfl
  | 35, _ => rfl
  | 36, _ => rfl
  | 37, _ => rfl
  | 38, h => absurd rfl h
  | 39, _ => rfl
  | 40, _ => rfl
  | 41, _ => rfl
  | 42, _ => rfl
  | 43, _ => rfl
  | 44, _ => rfl
  | 45, _ => rfl
  | 46, _ => rfl
  | 47, _ => rfl
  | 48, _ => rfl
  | 49, _ => rfl
  | 50, _ => rfl
  | 51, _ => rfl
  | 52, _ => rfl
  | 53, _ => rfl
  | 54, _ => rfl
  | 55, _ => rfl
  | 56, _ => rfl
  | 57, _ => rfl
  | 58, _ => rfl
  | 59, _ => rfl
  | 60, _ => rfl
  | 61, _ => rfl
  | 62, _ => rfl
  | 63, _ => rfl
  | 64, _ => rfl
  | 65, _ => rfl
  | 66, _ => rfl
  | 67, _ => rfl
  | 68, _ => rfl
  | 69, _ => rfl
  | _ + 70, _ => rfl
theorem zW_ρl {n : Nat} {ξ : Nat → Nat → Int32} {ρ : zRho} {v : Nat → Option Nat} {e : va_E} (h : e = zcel (zρl ρ v) 38 (ξ 38)) : zset (zWof n ξ ρ) 38 e = zWof n ξ (zρl ρ v) := by
  subst h
  unfold zset zWof
  congr 1
  funext a
  by_cases q : a = 38
  · subst q
    simp [va_up]
  · simp only [va_up, q, if_false]
    exact (zcel_ρl ρ v a _ q).symm
abbrev zρt (ρ : zRho) (a : Nat) (e : va_E) : zRho := (ρ.1, ρ.2.1, ρ.2.2.1, ρ.2.2.2.1, ρ.2.2.2.2.1, va_up ρ.2.2.2.2.2 a e)
theorem zcel_hi (ρ : zRho) (f : Nat → Int32) {a : Nat} (h : 70 ≤ a) : zcel ρ a f = ρ.2.2.2.2.2 a := by
  obtain ⟨k, rfl⟩ : ∃ k, a = k + 70 := ⟨a - 70, by omega⟩
  rfl
theorem zcel_lo (ρ : zRho) (b : Nat) (e : va_E) (a : Nat) (f : Nat → Int32) (h : a < 70) : zcel (zρt ρ b e) a f = zcel ρ a f := match a, h with
  | 0, _ => rfl
  | 1, _ => rfl
  | 2, _ => rfl
  | 3, _ => rfl
  | 4, _ => rfl
  | 5, _ => rfl
  | 6, _ => rfl
  | 7, _ => rfl
  | 8, _ => rfl
  | 9, _ => rfl
  | 10, _ => rfl
  | 11, _ => rfl
  | 12, _ => rfl
  | 13, _ => rfl
  | 14, _ => rfl
  | 15, _ => rfl
  | 16, _ => rfl
  | 17, _ => rfl
  | 18, _ => rfl
  | 19, _ => rfl
  | 20, _ => rfl
  | 21, _ => rfl
  | 22, _ => rfl
  | 23, _ => rfl
  | 24, _ => rfl
  | 25, _ => rfl
  | 26, _ => rfl
  | 27, _ => rfl
  | 28, _ => rfl
  | 29, _ => rfl
  | 30, _ => rfl
  | 31, _ => rfl
  | 32, _ => rfl
  | 33, _ => rfl
  | 34, _ => rfl
  | 35, _ => rfl
  | 36, _ => rfl
  | 37, _ => rfl
  | 38, _ => rfl
  | 39, _ => rfl
  | 40, _ => rfl
  | 41, _ => rfl
  | 42, _ => rfl
  | 43, _ => rfl
  | 44, _ => rfl
  | 45, _ => rfl
  | 46, _ => rfl
  | 47, _ => rfl
  | 48, _ => rfl
  | 49, _ => rfl
  | 50, _ => rfl
  | 51, _ => rfl
  | 52, _ => rfl
  | 53, _ => rfl
  | 54, _ => rfl
  | 55, _ => rfl
  | 56, _ => rfl
  | 57, _ => rfl
  | 58, _ => rfl
  | 59, _ => rfl
  | 60, _ => rfl
  | 61, _ => rfl
  | 62, _ => rfl
  | 63, _ => rfl
  | 64, _ => rfl
  | 65, _ => rfl
  | 66, _ => rfl
  | 67, _ => rfl
  | 68, _ => rfl
  | 69, _ => rfl
  | _ + 70, h => absurd h (by omega)
theorem zc_hi {n : Nat} {ξ : Nat → Nat → Int32} {ρ : zRho} {a : Nat} (h : 70 ≤ a) : (zWof n ξ ρ).2 a = ρ.2.2.2.2.2 a := zcel_hi ρ _ h
theorem zW_t {n : Nat} {ξ : Nat → Nat → Int32} {ρ : zRho} {a : Nat} {e : va_E} (h : 70 ≤ a) : zset (zWof n ξ ρ) a e = zWof n ξ (zρt ρ a e) := by
  unfold zset zWof
  congr 1
  funext b
  by_cases q : b = a
  · subst q
    rw [zcel_hi _ _ h]
    simp [va_up]
  · simp only [va_up, q, if_false]
    by_cases hb : b < 70
    · exact (zcel_lo ρ a e b _ hb).symm
    · rw [zcel_hi _ _ (by omega), zcel_hi _ _ (by omega)]
      simp [va_up, q]
theorem zW_p {n : Nat} {ξ : Nat → Nat → Int32} {ρ : zRho} {e : va_E} (h : 70 ≤ n) : zpush (zWof n ξ ρ) e = zWof (n + 1) ξ (zρt ρ n e) := by
  have q := zW_t (n := n) (ξ := ξ) (ρ := ρ) (a := n) (e := e) h
  have q2 := congrArg Prod.snd q
  unfold zpush
  exact Prod.ext rfl q2
/-- a SHEET's row at a: sort, how many, items -/
abbrev zsAt (n : Nat) (ρ : zRho) (a : Nat) (sort : Int32) (size : Nat) (it : Nat → Int64) : Prop := 70 ≤ a ∧ a % 2 = 0 ∧ a + 1 < n ∧ size ≤ 40 ∧ (0 ≤ sort ∧ sort ≤ 3) ∧ ρ.2.2.2.2.2 a = zob 2 [.int sort, .ref (a + 1)] ∧ ρ.2.2.2.2.2 (a + 1) = zal size it
abbrev zSh : Type := Nat → Option (Int32 × Nat × (Nat → Int64))
abbrev zSl : Type := Nat → Option (Int32 × Nat)
abbrev zXS (n : Nat) (ρ : zRho) (sh : zSh) (sl : zSl) : Prop := 70 ≤ n ∧ n % 2 = 0 ∧
  (∀ i, i < 4 → (ρ.2.2.2.1 i = none ∧ sh i = none) ∨ ∃ a sort size it, ρ.2.2.2.1 i = some a ∧ sh i = some (sort, size, it) ∧ zsAt n ρ a sort size it) ∧
  (∀ i, i < 4 → (ρ.2.2.2.2.1 i = none ∧ sl i = none) ∨ ∃ a sort size it, ρ.2.2.2.2.1 i = some a ∧ sl i = some (sort, size) ∧ zsAt n ρ a sort size it) ∧
  ∀ i j a, i < 4 → j < 4 → ρ.2.2.2.1 i = some a → ρ.2.2.2.1 j = some a → i = j
def zcv (sort v : Int32) : Int64 := if sort = 0 then v.toInt8.toInt32.toInt64 else if sort = 1 then v.toInt16.toInt32.toInt64 else v.toInt64
set_option maxRecDepth 20000 in
set_option maxHeartbeats 1000000 in
theorem c_hasItem {S : Nat × (Nat → Int32)} {d n : Nat} {ξ : Nat → Nat → Int32} {ρ : zRho} {a size : Nat} {sort : Int32} {it : Nat → Int64} (h : zsAt n ρ a sort size it) (x : Int32) : Zc S (d + 1) jX2_hasItem [.ref a, .int x] (zWof n ξ ρ) (fun r w => r = some (.int (zb (0 ≤ x ∧ x < nI size))) ∧ w = zWof n ξ ρ) := by
  refine Zc_in (q := (2, 0, 3, 1, 2, 0, 0, zk_X2_hasItem)) rfl (Nat.le_of_ble_eq_true rfl) (L := [_, _]) rfl ?_
  refine zr_iload_n 1 rfl rfl rfl ?_
  refine zr_if_lt 17 4 rfl rfl (by decide) (fun c1z => ?_) (fun c1z => ?_)
  · refine zr_iconst 18 (x := 0) rfl rfl (by decide) ?_
    refine zr_zret rfl rfl (Or.inl rfl) ?_
    refine ⟨?_, rfl⟩
    first | (simp [zb, nI, *]; done) | grind [zb, nI]
  · refine zr_iload_n 5 rfl rfl rfl ?_
    refine zr_aload_n 6 rfl rfl rfl trivial ?_
    refine zr_getf 9 rfl rfl rfl ((zc_hi h.1).trans h.2.2.2.2.2.1) rfl ?_
    refine zr_alen 10 rfl rfl ((zc_hi (by omega)).trans h.2.2.2.2.2.2) (by decide) rfl ?_
    refine zr_icmp_ge 17 13 rfl rfl (by decide) (fun c10z => ?_) (fun c10z => ?_)
    · refine zr_iconst 18 (x := 0) rfl rfl (by decide) ?_
      refine zr_zret rfl rfl (Or.inl rfl) ?_
      refine ⟨?_, rfl⟩
      first | (simp [zb, nI, *]; done) | grind [zb, nI]
    · refine zr_iconst 14 (x := 1) rfl rfl (by decide) ?_
      refine zr_goto 18 rfl (by decide) ?_
      refine zr_zret rfl rfl (Or.inr rfl) ?_
      refine ⟨?_, rfl⟩
      first | (simp [zb, nI, *]; done) | grind [zb, nI]
set_option maxRecDepth 20000 in
set_option maxHeartbeats 1000000 in
theorem c_narrowed {S : Nat × (Nat → Int32)} {d n : Nat} {ξ : Nat → Nat → Int32} {ρ : zRho} {a size : Nat} {sort : Int32} {it : Nat → Int64} (h : zsAt n ρ a sort size it) (x : Int32) : Zc S (d + 1) jX2_narrowed [.ref a, .int x] (zWof n ξ ρ) (fun r w => r = some (.long (zcv sort x)) ∧ w = zWof n ξ ρ) := by
  refine Zc_in (q := (2, 0, 2, 1, 2, 0, 0, zk_X2_narrowed)) rfl (Nat.le_of_ble_eq_true rfl) (L := [_, _]) rfl ?_
  refine zr_aload_n 1 rfl rfl rfl trivial ?_
  refine zr_getf 4 rfl rfl rfl ((zc_hi h.1).trans h.2.2.2.2.2.1) rfl ?_
  by_cases s4_0 : sort = 0
  · refine zr_lsw 32 (off := 28) rfl rfl (by rw [s4_0] <;> rfl) (by decide) ?_
    refine zr_iload_n 33 rfl rfl rfl ?_
    refine zr_i2b 34 rfl rfl ?_
    refine zr_i2l 35 rfl rfl ?_
    refine zr_lret rfl rfl ?_
    refine ⟨?_, rfl⟩
    unfold zcv
    simp_all
  by_cases s4_1 : sort = 1
  · refine zr_lsw 36 (off := 32) rfl rfl (by rw [s4_1] <;> rfl) (by decide) ?_
    refine zr_iload_n 37 rfl rfl rfl ?_
    refine zr_i2s 38 rfl rfl ?_
    refine zr_i2l 39 rfl rfl ?_
    refine zr_lret rfl rfl ?_
    refine ⟨?_, rfl⟩
    unfold zcv
    simp_all
  refine zr_lsw 40 (off := 36) rfl rfl (by rw [lv_osw s4_0 (by decide), lv_osw s4_1 (by decide)] <;> rfl) (by decide) ?_
  refine zr_iload_n 41 rfl rfl rfl ?_
  refine zr_i2l 42 rfl rfl ?_
  refine zr_lret rfl rfl ?_
  refine ⟨?_, rfl⟩
  unfold zcv
  simp_all
set_option maxRecDepth 20000 in
set_option maxHeartbeats 1000000 in
theorem c_sheetInit {S : Nat × (Nat → Int32)} {d n : Nat} {ξ : Nat → Nat → Int32} {ρ : zRho} {a b : Nat} (ha : 70 ≤ a) (h : ρ.2.2.2.2.2 a = zob 2 [.int 0, .null]) (x : Int32) : Zc S (d + 1) jX2_init [.ref a, .int x, .ref b] (zWof n ξ ρ) (fun r w => r = none ∧ w = zWof n ξ (zρt ρ a (zob 2 [.int x, .ref b]))) := by
  refine Zc_in (q := (2, 1, 0, 2, 3, 0, 0, zk_X2_init)) rfl (Nat.le_of_ble_eq_true rfl) (L := [_, _, _]) rfl ?_
  refine zr_aload_n 1 rfl rfl rfl trivial ?_
  refine zr_oinit 4 rfl rfl rfl (Nat.le_of_ble_eq_true rfl) ?_
  refine zr_aload_n 5 rfl rfl rfl trivial ?_
  refine zr_iload_n 6 rfl rfl rfl ?_
  refine zr_putf 9 rfl rfl rfl ((zc_hi ha).trans h) (Nat.le_of_ble_eq_true rfl) rfl trivial (fun _ => ⟨rfl, rfl⟩) (zW_t ha) ?_
  refine zr_aload_n 10 rfl rfl rfl trivial ?_
  refine zr_aload_n 11 rfl rfl rfl trivial ?_
  refine zr_putf 14 rfl rfl rfl ((zc_hi ha).trans (va_up_self _ _ _)) (Nat.le_of_ble_eq_true rfl) rfl trivial (fun _ => ⟨rfl, rfl⟩) (zW_t ha) ?_
  refine zr_ret rfl rfl ?_
  refine ⟨rfl, ?_⟩
  show zWof n ξ (zρt (zρt ρ a (zob 2 [.int x, .null])) a (zob 2 [.int x, .ref b])) = _
  have e : zρt (zρt ρ a (zob 2 [.int x, .null])) a (zob 2 [.int x, .ref b]) = zρt ρ a (zob 2 [.int x, .ref b]) := by
    refine congrArg (fun q => (ρ.1, ρ.2.1, ρ.2.2.1, ρ.2.2.2.1, ρ.2.2.2.2.1, q)) ?_
    funext k
    show va_up (va_up _ _ _) _ _ k = va_up _ _ _ k
    unfold va_up
    split <;> rfl
  rw [e]
