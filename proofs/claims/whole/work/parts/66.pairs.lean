def zPr (S : Nat × (Nat → Int32)) (j5 j6 : Nat) (As : List Value) (n : Nat) (ξ : Nat → Nat → Int32) (ρ : zRho) : Prop := ∃ r : Int32, Zc S 40 j5 (.ref 0 :: As) (zWof n ξ ρ) (fun v w => v = some (.int r) ∧ ∃ n1 ξ1 ρ1, w = zWof n1 ξ1 ρ1 ∧ Zc S 40 j6 (.ref 42 :: As) (zWof n1 ξ1 ρ1) (fun v2 w2 => v2 = some (.int r) ∧ ∃ n2 ξ2 ρ2, w2 = zWof n2 ξ2 ρ2 ∧ zInv n2 ξ2 ρ2))
section ZOKS
variable {K : zCs}
theorem zok_set (hK : zOK K) (l v : Int32) : zOK (K.set l v).1 := by
  unfold zCs.set
  by_cases q : zlok l v
  · rw [if_pos q]
    exact hK.setl q
  · rw [if_neg q]
    exact hK
theorem zok_date (hK : zOK K) (day part : Int32) : zOK (K.date day part).1 := by
  unfold zCs.date
  by_cases q : day < 0 ∨ K.law 0 ≤ day ∨ part < 1 ∨ 99 < part
  · rw [if_pos q]
    exact hK
  rw [if_neg q]
  by_cases q2 : K.has day
  · rw [if_pos q2]
    exact hK
  rw [if_neg q2]
  by_cases q3 : 3 ≤ K.D
  · rw [if_pos q3]
    exact hK
  rw [if_neg q3]
  refine hK.addD (by omega) ?_ ?_ q2 ⟨?_, ?_⟩
  · have z := Int32.le_iff_toInt_le.mp (Int32.not_lt.mp (fun z => q (Or.inl z)))
    rw [zI0] at z
    exact z
  · exact Int32.lt_iff_toInt_lt.mp (Int32.not_le.mp (fun z => q (Or.inr (Or.inl z))))
  · have z := Int32.le_iff_toInt_le.mp (Int32.not_lt.mp (fun z => q (Or.inr (Or.inr (Or.inl z)))))
    rw [zI1] at z
    exact z
  · have z := Int32.le_iff_toInt_le.mp (Int32.not_lt.mp (fun z => q (Or.inr (Or.inr (Or.inr z)))))
    rw [show (99 : Int32).toInt = 99 by decide] at z
    exact z
theorem zok_strike (hK : zOK K) (x : Int32) : zOK (K.strike x).1 := by
  unfold zCs.strike
  by_cases q : 0 ≤ x ∧ x < nI K.D
  · rw [if_pos q]
    exact hK.cutD (zpidx q (by have := hK.d3; omega))
  · rw [if_neg q]
    exact hK
theorem zok_person (hK : zOK K) (kd a wk : Int32) : zOK (K.person kd a wk).1 := by
  unfold zCs.person
  by_cases q : zpar kd a wk
  · rw [if_pos q]
    by_cases q2 : K.M < 6
    · rw [if_pos q2]
      exact hK.addP q2 q
    · rw [if_neg q2]
      exact hK
  · rw [if_neg q]
    exact hK
theorem z09 {a : Int32} (h : 0 ≤ a ∧ a ≤ 9) : 0 ≤ a.toInt ∧ a.toInt ≤ 9 := by
  have x := Int32.le_iff_toInt_le.mp h.1
  have y := Int32.le_iff_toInt_le.mp h.2
  rw [zI0] at x
  rw [zI9] at y
  exact ⟨x, y⟩
theorem z05 {a : Int32} (h : 0 ≤ a ∧ a < 6) : 0 ≤ a.toInt ∧ a.toInt ≤ 5 := by
  have x := Int32.le_iff_toInt_le.mp h.1
  have y := Int32.lt_iff_toInt_lt.mp h.2
  rw [zI0] at x
  rw [show (6 : Int32).toInt = 6 by decide] at y
  exact ⟨x, by omega⟩
theorem zok_mind (hK : zOK K) (x kd a : Int32) : zOK (K.mind x kd a).1 := by
  unfold zCs.mind
  by_cases q : (0 ≤ x ∧ x < nI K.M) ∧ (0 ≤ kd ∧ kd < 6) ∧ (0 ≤ a ∧ a ≤ 9)
  · rw [if_pos q]
    have hi := zpidx q.1 (by have := hK.m6; omega)
    have k1 := hK.sp x.toNatClampNeg (k := 0) (v := kd) (fun h => (hK.hp _ h).kind (z05 q.2.1))
    exact k1.sp x.toNatClampNeg (fun h => (k1.hp _ h).a (z09 q.2.2))
  · rw [if_neg q]
    exact hK
theorem zok_ill (hK : zOK K) (x v : Int32) : zOK (K.ill x v).1 := by
  unfold zCs.ill
  by_cases q : (0 ≤ x ∧ x < nI K.M) ∧ 0 ≤ v ∧ v ≤ 1073741823
  · rw [if_pos q]
    exact hK.sp _ (fun h => (hK.hp _ h).ill v)
  · rw [if_neg q]
    exact hK
theorem zok_lot (hK : zOK K) (x : Int32) : zOK (K.lot x).1 := by
  unfold zCs.lot
  by_cases q : 0 ≤ x ∧ x < nI K.M
  · rw [if_pos q]
    exact (hK.sz (K.z * 1103515245 + 12345)).sp x.toNatClampNeg (k := 4) (v := K.p x.toNatClampNeg 4 ||| (1 : Int32) <<< (zlotD (K.z * 1103515245 + 12345) &&& 31)) (fun h => ((hK.sz (K.z * 1103515245 + 12345)).hp x.toNatClampNeg h).ill _)
  · rw [if_neg q]
    exact hK
theorem zok_days (hK : zOK K) (x : Int32) : zOK (K.days x).1 := by
  unfold zCs.days
  have := hK.t60
  by_cases q : 0 ≤ x ∧ x ≤ 60
  · rw [if_pos q]
    exact hK.go (by omega) (by omega)
  · rw [if_neg q]
    exact hK
theorem zc9_b (v : Int32) : 0 ≤ (zc9 v).toInt ∧ (zc9 v).toInt ≤ 9 := by
  unfold zc9
  have e : ∀ y : Int32, y ≤ 9 → 0 ≤ (if 0 < y then y else 0).toInt ∧ (if 0 < y then y else 0).toInt ≤ 9 := fun y hy => by
    have b := Int32.le_iff_toInt_le.mp hy
    rw [zI9] at b
    by_cases q : 0 < y
    · rw [if_pos q]
      have a := Int32.lt_iff_toInt_lt.mp q
      rw [zI0] at a
      omega
    · rw [if_neg q]
      decide
  refine e _ ?_
  by_cases q : v < 9
  · rw [if_pos q]
    exact Int32.le_of_lt q
  · rw [if_neg q]
    exact Int32.le_refl _
theorem zok_mnd (hK : zOK K) (p i : Nat) (it : Nat → Int64) : ∀ k, zOK (zmnd K p i it k)
  | 0 => hK
  | k + 1 => (zok_mnd hK p i it k).sp _ (fun h => ((zok_mnd hK p i it k).hp _ h).a (zc9_b _))
theorem zok_minds (hK : zOK K) (sh : zSh) (x i p m : Int32) : zOK (zmindsF K sh x i p m).1 := by
  unfold zmindsF
  split
  · exact hK
  · split
    · exact hK
    · split
      · exact hK
      · split
        · exact hK
        · exact zok_mnd hK _ _ _ _
end ZOKS
theorem zjdgF_cg {K : zCs} {i : Nat} {f g : Nat → Int32} : ∀ n r, (∀ k, k < 3 * (r + n) → f k = g k) → zjdgF K i f n r = zjdgF K i g n r
  | 0, _, _ => rfl
  | n + 1, r, h => by
    rw [zjdgF, zjdgF, zjdgF_cg n (r + 1) (fun k hk => h k (by omega)), h (r * 3) (by omega), h (r * 3 + 1) (by omega), h (r * 3 + 2) (by omega)]
theorem p_set (S : Nat × (Nat → Int32)) {n : Nat} {ξ : Nat → Nat → Int32} {ρ : zRho} (inv : zInv n ξ ρ) (l v : Int32) : zPr S jX5_set jX6_set [.int l, .int v] n ξ ρ := by
  obtain ⟨K, Kk, sh, sl, L, R, N, hX, hM, hK, hkp, hkk, t1, t2, t3, t4, r1, r2, r3, r4, s1, s2, s3, c1, c2, c3, c4⟩ := inv
  have hm6 := hK.m6
  have hd3 := hK.d3
  have ht60 := hK.t60
  refine ⟨(K.set l v).2, Zc_mono (d := 39) (c_set (d := 38) hX hK l v) ?_⟩
  rintro v w ⟨ξ1, rfl, rfl, x1, f1⟩
  refine ⟨rfl, n, ξ1, ρ, rfl, Zc_mono (d := 39) (c_Mset (d := 37) (hM.of hm6 (fun a ha => f1 a (by omega))) hK l v) ?_⟩
  rintro v w ⟨ξ2, rfl, rfl, m2, g2⟩
  exact ⟨rfl, n, ξ2, ρ, rfl, zInv.cm hkp hkk t1 t2 t3 t4 r1 r2 r3 r4 s1 s2 s3 c1 c2 c3 c4 (zfC1 f1) g2 x1 m2 (zok_set hK l v)⟩
theorem p_date (S : Nat × (Nat → Int32)) {n : Nat} {ξ : Nat → Nat → Int32} {ρ : zRho} (inv : zInv n ξ ρ) (x y : Int32) : zPr S jX5_date jX6_date [.int x, .int y] n ξ ρ := by
  obtain ⟨K, Kk, sh, sl, L, R, N, hX, hM, hK, hkp, hkk, t1, t2, t3, t4, r1, r2, r3, r4, s1, s2, s3, c1, c2, c3, c4⟩ := inv
  have hm6 := hK.m6
  have hd3 := hK.d3
  have ht60 := hK.t60
  refine ⟨(K.date x y).2, Zc_mono (d := 39) (c_date (d := 38) hX hK x y) ?_⟩
  rintro v w ⟨ξ1, rfl, rfl, x1, f1⟩
  refine ⟨rfl, n, ξ1, ρ, rfl, Zc_mono (d := 39) (c_Mdate (d := 38) (hM.of hm6 (fun a ha => f1 a (by omega))) hK x y) ?_⟩
  rintro v w ⟨ξ2, rfl, rfl, m2, g2⟩
  exact ⟨rfl, n, ξ2, ρ, rfl, zInv.cm hkp hkk t1 t2 t3 t4 r1 r2 r3 r4 s1 s2 s3 c1 c2 c3 c4 (zfC1 f1) g2 x1 m2 (zok_date hK x y)⟩
theorem p_strike (S : Nat × (Nat → Int32)) {n : Nat} {ξ : Nat → Nat → Int32} {ρ : zRho} (inv : zInv n ξ ρ) (x : Int32) : zPr S jX5_strike jX6_strike [.int x] n ξ ρ := by
  obtain ⟨K, Kk, sh, sl, L, R, N, hX, hM, hK, hkp, hkk, t1, t2, t3, t4, r1, r2, r3, r4, s1, s2, s3, c1, c2, c3, c4⟩ := inv
  have hm6 := hK.m6
  have hd3 := hK.d3
  have ht60 := hK.t60
  refine ⟨(K.strike x).2, Zc_mono (d := 39) (c_strike (d := 38) hX hK x) ?_⟩
  rintro v w ⟨ξ1, rfl, rfl, x1, f1⟩
  refine ⟨rfl, n, ξ1, ρ, rfl, Zc_mono (d := 39) (c_Mstrike (d := 38) (hM.of hm6 (fun a ha => f1 a (by omega))) hK x) ?_⟩
  rintro v w ⟨ξ2, rfl, rfl, m2, g2⟩
  exact ⟨rfl, n, ξ2, ρ, rfl, zInv.cm hkp hkk t1 t2 t3 t4 r1 r2 r3 r4 s1 s2 s3 c1 c2 c3 c4 (zfC1 f1) g2 x1 m2 (zok_strike hK x)⟩
theorem p_person (S : Nat × (Nat → Int32)) {n : Nat} {ξ : Nat → Nat → Int32} {ρ : zRho} (inv : zInv n ξ ρ) (x y z : Int32) : zPr S jX5_person jX6_person [.int x, .int y, .int z] n ξ ρ := by
  obtain ⟨K, Kk, sh, sl, L, R, N, hX, hM, hK, hkp, hkk, t1, t2, t3, t4, r1, r2, r3, r4, s1, s2, s3, c1, c2, c3, c4⟩ := inv
  have hm6 := hK.m6
  have hd3 := hK.d3
  have ht60 := hK.t60
  refine ⟨(K.person x y z).2, Zc_mono (d := 39) (c_person (d := 37) hX hK x y z) ?_⟩
  rintro v w ⟨ξ1, rfl, rfl, x1, f1⟩
  refine ⟨rfl, n, ξ1, ρ, rfl, Zc_mono (d := 39) (c_Mperson (d := 37) (hM.of hm6 (fun a ha => f1 a (by omega))) hK x y z) ?_⟩
  rintro v w ⟨ξ2, rfl, rfl, m2, g2⟩
  exact ⟨rfl, n, ξ2, ρ, rfl, zInv.cm hkp hkk t1 t2 t3 t4 r1 r2 r3 r4 s1 s2 s3 c1 c2 c3 c4 (zfC1 f1) g2 x1 m2 (zok_person hK x y z)⟩
theorem p_mind (S : Nat × (Nat → Int32)) {n : Nat} {ξ : Nat → Nat → Int32} {ρ : zRho} (inv : zInv n ξ ρ) (x y z : Int32) : zPr S jX5_mind jX6_mind [.int x, .int y, .int z] n ξ ρ := by
  obtain ⟨K, Kk, sh, sl, L, R, N, hX, hM, hK, hkp, hkk, t1, t2, t3, t4, r1, r2, r3, r4, s1, s2, s3, c1, c2, c3, c4⟩ := inv
  have hm6 := hK.m6
  have hd3 := hK.d3
  have ht60 := hK.t60
  refine ⟨(K.mind x y z).2, Zc_mono (d := 39) (k_mind (d := 38) hX hK x y z) ?_⟩
  rintro v w ⟨ξ1, rfl, rfl, x1, f1⟩
  refine ⟨rfl, n, ξ1, ρ, rfl, Zc_mono (d := 39) (c_Mmind (d := 37) (hM.of hm6 (fun a ha => f1 a (by omega))) hK x y z) ?_⟩
  rintro v w ⟨ξ2, rfl, rfl, m2, g2⟩
  exact ⟨rfl, n, ξ2, ρ, rfl, zInv.cm hkp hkk t1 t2 t3 t4 r1 r2 r3 r4 s1 s2 s3 c1 c2 c3 c4 (zfC1 f1) g2 x1 m2 (zok_mind hK x y z)⟩
theorem p_ill (S : Nat × (Nat → Int32)) {n : Nat} {ξ : Nat → Nat → Int32} {ρ : zRho} (inv : zInv n ξ ρ) (x y : Int32) : zPr S jX5_ill jX6_ill [.int x, .int y] n ξ ρ := by
  obtain ⟨K, Kk, sh, sl, L, R, N, hX, hM, hK, hkp, hkk, t1, t2, t3, t4, r1, r2, r3, r4, s1, s2, s3, c1, c2, c3, c4⟩ := inv
  have hm6 := hK.m6
  have hd3 := hK.d3
  have ht60 := hK.t60
  refine ⟨(K.ill x y).2, Zc_mono (d := 39) (c_ill (d := 38) hX hK x y) ?_⟩
  rintro v w ⟨ξ1, rfl, rfl, x1, f1⟩
  refine ⟨rfl, n, ξ1, ρ, rfl, Zc_mono (d := 39) (c_Mill (d := 37) (hM.of hm6 (fun a ha => f1 a (by omega))) hK x y) ?_⟩
  rintro v w ⟨ξ2, rfl, rfl, m2, g2⟩
  exact ⟨rfl, n, ξ2, ρ, rfl, zInv.cm hkp hkk t1 t2 t3 t4 r1 r2 r3 r4 s1 s2 s3 c1 c2 c3 c4 (zfC1 f1) g2 x1 m2 (zok_ill hK x y)⟩
theorem p_lot (S : Nat × (Nat → Int32)) {n : Nat} {ξ : Nat → Nat → Int32} {ρ : zRho} (inv : zInv n ξ ρ) (x : Int32) : zPr S jX5_lot jX6_lot [.int x] n ξ ρ := by
  obtain ⟨K, Kk, sh, sl, L, R, N, hX, hM, hK, hkp, hkk, t1, t2, t3, t4, r1, r2, r3, r4, s1, s2, s3, c1, c2, c3, c4⟩ := inv
  have hm6 := hK.m6
  have hd3 := hK.d3
  have ht60 := hK.t60
  refine ⟨(K.lot x).2, Zc_mono (d := 39) (c_lot (d := 38) hX hK x) ?_⟩
  rintro v w ⟨ξ1, rfl, rfl, x1, f1⟩
  refine ⟨rfl, n, ξ1, ρ, rfl, Zc_mono (d := 39) (c_Mlot (d := 37) (hM.of hm6 (fun a ha => f1 a (by omega))) hK x) ?_⟩
  rintro v w ⟨ξ2, rfl, rfl, m2, g2⟩
  exact ⟨rfl, n, ξ2, ρ, rfl, zInv.cm hkp hkk t1 t2 t3 t4 r1 r2 r3 r4 s1 s2 s3 c1 c2 c3 c4 (zfC1 f1) g2 x1 m2 (zok_lot hK x)⟩
theorem p_days (S : Nat × (Nat → Int32)) {n : Nat} {ξ : Nat → Nat → Int32} {ρ : zRho} (inv : zInv n ξ ρ) (x : Int32) : zPr S jX5_days jX6_days [.int x] n ξ ρ := by
  obtain ⟨K, Kk, sh, sl, L, R, N, hX, hM, hK, hkp, hkk, t1, t2, t3, t4, r1, r2, r3, r4, s1, s2, s3, c1, c2, c3, c4⟩ := inv
  have hm6 := hK.m6
  have hd3 := hK.d3
  have ht60 := hK.t60
  refine ⟨(K.days x).2, Zc_mono (d := 39) (c_days (d := 33) hX hK x) ?_⟩
  rintro v w ⟨ξ1, rfl, rfl, x1, f1⟩
  refine ⟨rfl, n, ξ1, ρ, rfl, Zc_mono (d := 39) (c_Mdays (d := 33) (hM.of hm6 (fun a ha => f1 a (by omega))) hK x) ?_⟩
  rintro v w ⟨ξ2, rfl, rfl, m2, g2⟩
  exact ⟨rfl, n, ξ2, ρ, rfl, zInv.cm hkp hkk t1 t2 t3 t4 r1 r2 r3 r4 s1 s2 s3 c1 c2 c3 c4 (zfC1 f1) g2 x1 m2 (zok_days hK x)⟩
theorem p_minds (S : Nat × (Nat → Int32)) {n : Nat} {ξ : Nat → Nat → Int32} {ρ : zRho} (inv : zInv n ξ ρ) (x y z u : Int32) : zPr S jX5_minds jX6_minds [.int x, .int y, .int z, .int u] n ξ ρ := by
  obtain ⟨K, Kk, sh, sl, L, R, N, hX, hM, hK, hkp, hkk, t1, t2, t3, t4, r1, r2, r3, r4, s1, s2, s3, c1, c2, c3, c4⟩ := inv
  have hm6 := hK.m6
  have hd3 := hK.d3
  have ht60 := hK.t60
  refine ⟨(zmindsF K sh x y z u).2, Zc_mono (d := 39) (c_minds (d := 38) hX hK s1 x y z u) ?_⟩
  rintro v w ⟨ξ1, rfl, rfl, x1, f1⟩
  refine ⟨rfl, n, ξ1, ρ, rfl, Zc_mono (d := 39) (c_Mminds (d := 37) (hM.of hm6 (fun a ha => f1 a (by omega))) hK (s2.of (f1 61 (by omega)) (f1 62 (by omega))) x y z u) ?_⟩
  rintro v w ⟨ξ2, rfl, rfl, m2, g2⟩
  exact ⟨rfl, n, ξ2, ρ, rfl, zInv.cm hkp hkk t1 t2 t3 t4 r1 r2 r3 r4 s1 s2 s3 c1 c2 c3 c4 (zfC1 f1) g2 x1 m2 (zok_minds hK sh x y z u)⟩
theorem p_seed (S : Nat × (Nat → Int32)) {n : Nat} {ξ : Nat → Nat → Int32} {ρ : zRho} (inv : zInv n ξ ρ) (v : Int32) : zPr S jX5_seed jX6_seed [.int v] n ξ ρ := by
  obtain ⟨K, Kk, sh, sl, L, R, N, hX, hM, hK, hkp, hkk, t1, t2, t3, t4, r1, r2, r3, r4, s1, s2, s3, c1, c2, c3, c4⟩ := inv
  have hm6 := hK.m6
  have hd3 := hK.d3
  have ht60 := hK.t60
  refine ⟨K.z, Zc_mono (d := 39) (c_seed (d := 39) v) ?_⟩
  rintro v2 w ⟨rfl, rfl⟩
  refine ⟨congrArg (fun y => some (Value.int y)) hX.hz, n, _, ρ, rfl, Zc_mono (d := 39) (c_Mseed (d := 39) (hM.of hm6 (fun a ha => zun (by omega))) hK v) ?_⟩
  rintro v2 w ⟨ξ2, rfl, rfl, m2, g2⟩
  exact ⟨rfl, n, ξ2, ρ, rfl, zInv.cm hkp hkk t1 t2 t3 t4 r1 r2 r3 r4 s1 s2 s3 c1 c2 c3 c4 (fun a ha => zun (by omega)) g2 (hX.sz v) m2 (hK.sz v)⟩
theorem p_heap (S : Nat × (Nat → Int32)) {n : Nat} {ξ : Nat → Nat → Int32} {ρ : zRho} (inv : zInv n ξ ρ) (x : Int32) : zPr S jX5_heap jX6_heap [.int x] n ξ ρ := by
  obtain ⟨K, Kk, sh, sl, L, R, N, hX, hM, hK, hkp, hkk, t1, t2, t3, t4, r1, r2, r3, r4, s1, s2, s3, c1, c2, c3, c4⟩ := inv
  have hm6 := hK.m6
  have hd3 := hK.d3
  have ht60 := hK.t60
  refine ⟨K.heap x, Zc_mono (d := 39) (c_heap (d := 32) hX hK x) ?_⟩
  rintro v w ⟨ξ1, rfl, rfl, f1⟩
  have m1 := hM.of hm6 (fun a ha => f1 a (by omega))
  refine ⟨rfl, n, ξ1, ρ, rfl, Zc_mono (d := 39) (c_Mheap (d := 32) m1 hK x) ?_⟩
  rintro v w ⟨ξ2, rfl, rfl, g2⟩
  exact ⟨rfl, n, ξ2, ρ, rfl, zInv.cm hkp hkk t1 t2 t3 t4 r1 r2 r3 r4 s1 s2 s3 c1 c2 c3 c4 (zfC23 f1) g2.fm (hX.fr hm6 (fun a h1 h2 => f1 a (by omega))) (g2.mr m1 hm6) hK⟩
theorem p_when (S : Nat × (Nat → Int32)) {n : Nat} {ξ : Nat → Nat → Int32} {ρ : zRho} (inv : zInv n ξ ρ) (x : Int32) : zPr S jX5_when jX6_when [.int x] n ξ ρ := by
  obtain ⟨K, Kk, sh, sl, L, R, N, hX, hM, hK, hkp, hkk, t1, t2, t3, t4, r1, r2, r3, r4, s1, s2, s3, c1, c2, c3, c4⟩ := inv
  have hm6 := hK.m6
  have hd3 := hK.d3
  have ht60 := hK.t60
  refine ⟨zper K x K.wn, Zc_mono (d := 39) (c_when (d := 32) hX hK x) ?_⟩
  rintro v w ⟨ξ1, rfl, rfl, f1⟩
  have m1 := hM.of hm6 (fun a ha => f1 a (by omega))
  refine ⟨rfl, n, ξ1, ρ, rfl, Zc_mono (d := 39) (c_Mwhen (d := 32) m1 hK x) ?_⟩
  rintro v w ⟨ξ2, rfl, rfl, g2⟩
  exact ⟨rfl, n, ξ2, ρ, rfl, zInv.cm hkp hkk t1 t2 t3 t4 r1 r2 r3 r4 s1 s2 s3 c1 c2 c3 c4 (zfC23 f1) g2.fm (hX.fr hm6 (fun a h1 h2 => f1 a (by omega))) (g2.mr m1 hm6) hK⟩
theorem p_markOf (S : Nat × (Nat → Int32)) {n : Nat} {ξ : Nat → Nat → Int32} {ρ : zRho} (inv : zInv n ξ ρ) (x : Int32) : zPr S jX5_markOf jX6_markOf [.int x] n ξ ρ := by
  obtain ⟨K, Kk, sh, sl, L, R, N, hX, hM, hK, hkp, hkk, t1, t2, t3, t4, r1, r2, r3, r4, s1, s2, s3, c1, c2, c3, c4⟩ := inv
  have hm6 := hK.m6
  have hd3 := hK.d3
  have ht60 := hK.t60
  refine ⟨zper K x K.mko, Zc_mono (d := 39) (c_markOf (d := 32) hX hK x) ?_⟩
  rintro v w ⟨ξ1, rfl, rfl, f1⟩
  have m1 := hM.of hm6 (fun a ha => f1 a (by omega))
  refine ⟨rfl, n, ξ1, ρ, rfl, Zc_mono (d := 39) (c_MmarkOf (d := 31) m1 hK x) ?_⟩
  rintro v w ⟨ξ2, rfl, rfl, g2⟩
  exact ⟨rfl, n, ξ2, ρ, rfl, zInv.cm hkp hkk t1 t2 t3 t4 r1 r2 r3 r4 s1 s2 s3 c1 c2 c3 c4 (zfC23 f1) g2.fm (hX.fr hm6 (fun a h1 h2 => f1 a (by omega))) (g2.mr m1 hm6) hK⟩
theorem p_late (S : Nat × (Nat → Int32)) {n : Nat} {ξ : Nat → Nat → Int32} {ρ : zRho} (inv : zInv n ξ ρ) : zPr S jX5_late jX6_late [] n ξ ρ := by
  obtain ⟨K, Kk, sh, sl, L, R, N, hX, hM, hK, hkp, hkk, t1, t2, t3, t4, r1, r2, r3, r4, s1, s2, s3, c1, c2, c3, c4⟩ := inv
  have hm6 := hK.m6
  have hd3 := hK.d3
  have ht60 := hK.t60
  refine ⟨(K.go 60).lts, Zc_mono (d := 39) (c_late (d := 32) hX hK ) ?_⟩
  rintro v w ⟨ξ1, rfl, rfl, f1⟩
  have m1 := hM.of hm6 (fun a ha => f1 a (by omega))
  refine ⟨rfl, n, ξ1, ρ, rfl, Zc_mono (d := 39) (c_Mlate (d := 32) m1 hK ) ?_⟩
  rintro v w ⟨ξ2, rfl, rfl, g2⟩
  exact ⟨rfl, n, ξ2, ρ, rfl, zInv.cm hkp hkk t1 t2 t3 t4 r1 r2 r3 r4 s1 s2 s3 c1 c2 c3 c4 (zfC23 f1) g2.fm (hX.fr hm6 (fun a h1 h2 => f1 a (by omega))) (g2.mr m1 hm6) hK⟩
theorem p_marks (S : Nat × (Nat → Int32)) {n : Nat} {ξ : Nat → Nat → Int32} {ρ : zRho} (inv : zInv n ξ ρ) : zPr S jX5_marks jX6_marks [] n ξ ρ := by
  obtain ⟨K, Kk, sh, sl, L, R, N, hX, hM, hK, hkp, hkk, t1, t2, t3, t4, r1, r2, r3, r4, s1, s2, s3, c1, c2, c3, c4⟩ := inv
  have hm6 := hK.m6
  have hd3 := hK.d3
  have ht60 := hK.t60
  refine ⟨(K.go 60).sum, Zc_mono (d := 39) (c_marks (d := 32) hX hK ) ?_⟩
  rintro v w ⟨ξ1, rfl, rfl, f1⟩
  have m1 := hM.of hm6 (fun a ha => f1 a (by omega))
  refine ⟨rfl, n, ξ1, ρ, rfl, Zc_mono (d := 39) (c_Mmarks (d := 32) m1 hK ) ?_⟩
  rintro v w ⟨ξ2, rfl, rfl, g2⟩
  exact ⟨rfl, n, ξ2, ρ, rfl, zInv.cm hkp hkk t1 t2 t3 t4 r1 r2 r3 r4 s1 s2 s3 c1 c2 c3 c4 (zfC23 f1) g2.fm (hX.fr hm6 (fun a h1 h2 => f1 a (by omega))) (g2.mr m1 hm6) hK⟩
theorem p_bestDate (S : Nat × (Nat → Int32)) {n : Nat} {ξ : Nat → Nat → Int32} {ρ : zRho} (inv : zInv n ξ ρ) : zPr S jX5_bestDate jX6_bestDate [] n ξ ρ := by
  obtain ⟨K, Kk, sh, sl, L, R, N, hX, hM, hK, hkp, hkk, t1, t2, t3, t4, r1, r2, r3, r4, s1, s2, s3, c1, c2, c3, c4⟩ := inv
  have hm6 := hK.m6
  have hd3 := hK.d3
  have ht60 := hK.t60
  refine ⟨K.best, Zc_mono (d := 39) (c_bestDate (d := 32) hX hK ) ?_⟩
  rintro v w ⟨ξ1, rfl, rfl, f1⟩
  have m1 := hM.of hm6 (fun a ha => f1 a (by omega))
  refine ⟨rfl, n, ξ1, ρ, rfl, Zc_mono (d := 39) (c_MbestDate (d := 31) m1 hK ) ?_⟩
  rintro v w ⟨ξ2, rfl, rfl, m2, g2⟩
  exact ⟨rfl, n, ξ2, ρ, rfl, zInv.cm hkp hkk t1 t2 t3 t4 r1 r2 r3 r4 s1 s2 s3 c1 c2 c3 c4 (zfC23 f1) g2 (hX.fr hm6 (fun a h1 h2 => f1 a (by omega))) m2 hK⟩
theorem p_enough (S : Nat × (Nat → Int32)) {n : Nat} {ξ : Nat → Nat → Int32} {ρ : zRho} (inv : zInv n ξ ρ) (x y : Int32) : zPr S jX5_enough jX6_enough [.int x, .int y] n ξ ρ := by
  obtain ⟨K, Kk, sh, sl, L, R, N, hX, hM, hK, hkp, hkk, t1, t2, t3, t4, r1, r2, r3, r4, s1, s2, s3, c1, c2, c3, c4⟩ := inv
  have hm6 := hK.m6
  have hd3 := hK.d3
  have ht60 := hK.t60
  refine ⟨(if y < 1 ∨ 120 < y then -1 else zper K x (K.enou y)), Zc_mono (d := 39) (c_enough (d := 32) hX hK x y) ?_⟩
  rintro v w ⟨ξ1, rfl, rfl, f1⟩
  have m1 := hM.of hm6 (fun a ha => f1 a (by omega))
  refine ⟨rfl, n, ξ1, ρ, rfl, Zc_mono (d := 39) (c_Menough (d := 31) m1 hK x y) ?_⟩
  rintro v w ⟨ξ2, rfl, rfl, m2, g2⟩
  exact ⟨rfl, n, ξ2, ρ, rfl, zInv.cm hkp hkk t1 t2 t3 t4 r1 r2 r3 r4 s1 s2 s3 c1 c2 c3 c4 (zfC23 f1) g2 (hX.fr hm6 (fun a h1 h2 => f1 a (by omega))) m2 hK⟩
theorem p_patience (S : Nat × (Nat → Int32)) {n : Nat} {ξ : Nat → Nat → Int32} {ρ : zRho} (inv : zInv n ξ ρ) (x : Int32) : zPr S jX5_patience jX6_patience [.int x] n ξ ρ := by
  obtain ⟨K, Kk, sh, sl, L, R, N, hX, hM, hK, hkp, hkk, t1, t2, t3, t4, r1, r2, r3, r4, s1, s2, s3, c1, c2, c3, c4⟩ := inv
  have hm6 := hK.m6
  have hd3 := hK.d3
  have ht60 := hK.t60
  refine ⟨zper K x (fun i => K.pat i 10 0 (-3) (-1)), Zc_mono (d := 39) (c_patience (d := 32) hX hK x) ?_⟩
  rintro v w ⟨ξ1, rfl, rfl, f1⟩
  have m1 := hM.of hm6 (fun a ha => f1 a (by omega))
  refine ⟨rfl, n, ξ1, ρ, rfl, Zc_mono (d := 39) (c_Mpatience (d := 31) m1 hK x) ?_⟩
  rintro v w ⟨ξ2, rfl, rfl, m2, g2⟩
  exact ⟨rfl, n, ξ2, ρ, rfl, zInv.cm hkp hkk t1 t2 t3 t4 r1 r2 r3 r4 s1 s2 s3 c1 c2 c3 c4 (zfC23 f1) g2 (hX.fr hm6 (fun a h1 h2 => f1 a (by omega))) m2 hK⟩
theorem p_worst (S : Nat × (Nat → Int32)) {n : Nat} {ξ : Nat → Nat → Int32} {ρ : zRho} (inv : zInv n ξ ρ) (x : Int32) : zPr S jX5_worst jX6_worst [.int x] n ξ ρ := by
  obtain ⟨K, Kk, sh, sl, L, R, N, hX, hM, hK, hkp, hkk, t1, t2, t3, t4, r1, r2, r3, r4, s1, s2, s3, c1, c2, c3, c4⟩ := inv
  have hm6 := hK.m6
  have hd3 := hK.d3
  have ht60 := hK.t60
  refine ⟨zper K x (fun i => K.wrs i (30 - K.T) K.T (-3) 121), Zc_mono (d := 39) (c_worst (d := 32) hX hK x) ?_⟩
  rintro v w ⟨ξ1, rfl, rfl, f1⟩
  have m1 := hM.of hm6 (fun a ha => f1 a (by omega))
  refine ⟨rfl, n, ξ1, ρ, rfl, Zc_mono (d := 39) (c_Mworst (d := 31) m1 hK x) ?_⟩
  rintro v w ⟨ξ2, rfl, rfl, m2, g2⟩
  exact ⟨rfl, n, ξ2, ρ, rfl, zInv.cm hkp hkk t1 t2 t3 t4 r1 r2 r3 r4 s1 s2 s3 c1 c2 c3 c4 (zfC23 f1) g2 (hX.fr hm6 (fun a h1 h2 => f1 a (by omega))) m2 hK⟩
theorem p_sooner (S : Nat × (Nat → Int32)) {n : Nat} {ξ : Nat → Nat → Int32} {ρ : zRho} (inv : zInv n ξ ρ) : zPr S jX5_sooner jX6_sooner [] n ξ ρ := by
  obtain ⟨K, Kk, sh, sl, L, R, N, hX, hM, hK, hkp, hkk, t1, t2, t3, t4, r1, r2, r3, r4, s1, s2, s3, c1, c2, c3, c4⟩ := inv
  have hm6 := hK.m6
  have hd3 := hK.d3
  have ht60 := hK.t60
  refine ⟨K.soon, Zc_mono (d := 39) (c_sooner (d := 32) hX hK ) ?_⟩
  rintro v w ⟨ξ1, rfl, rfl, f1⟩
  have m1 := hM.of hm6 (fun a ha => f1 a (by omega))
  refine ⟨rfl, n, ξ1, ρ, rfl, Zc_mono (d := 39) (c_Msooner (d := 31) m1 hK ) ?_⟩
  rintro v w ⟨ξ2, rfl, rfl, m2, g2⟩
  exact ⟨rfl, n, ξ2, ρ, rfl, zInv.cm hkp hkk t1 t2 t3 t4 r1 r2 r3 r4 s1 s2 s3 c1 c2 c3 c4 (zfC23 f1) g2 (hX.fr hm6 (fun a h1 h2 => f1 a (by omega))) m2 hK⟩
theorem p_judge (S : Nat × (Nat → Int32)) {n : Nat} {ξ : Nat → Nat → Int32} {ρ : zRho} (inv : zInv n ξ ρ) (x : Int32) : zPr S jX5_judge jX6_judge [.int x] n ξ ρ := by
  obtain ⟨K, Kk, sh, sl, L, R, N, hX, hM, hK, hkp, hkk, t1, t2, t3, t4, r1, r2, r3, r4, s1, s2, s3, c1, c2, c3, c4⟩ := inv
  have hm6 := hK.m6
  have hd3 := hK.d3
  have ht60 := hK.t60
  refine ⟨zper K x (fun i => zjdgF K i (ξ 36) R 0), Zc_mono (d := 39) (c_judge (d := 35) hX hK r1 r3 x) ?_⟩
  rintro v w ⟨ξ1, rfl, rfl, f1⟩
  have m1 := hM.of hm6 (fun a ha => f1 a (by omega))
  refine ⟨rfl, n, ξ1, ρ, rfl, Zc_mono (d := 39) (c_Mjudge (d := 33) m1 hK (R := R) (by rw [f1 42 (by omega)]; exact r2) r3 x) ?_⟩
  rintro v w ⟨ξ2, rfl, rfl, m2, g2⟩
  refine ⟨?_, n, ξ2, ρ, rfl, zInv.cm hkp hkk t1 t2 t3 t4 r1 r2 r3 r4 s1 s2 s3 c1 c2 c3 c4 (zfC23 f1) g2 (hX.fr hm6 (fun a h1 h2 => f1 a (by omega))) m2 hK⟩
  have e : (fun i => zjdgF K i (ξ1 59) R 0) = fun i => zjdgF K i (ξ 36) R 0 := by
    funext i
    rw [f1 59 (by omega)]
    exact zjdgF_cg R 0 (fun k hk => (r4 k (by omega)).symm)
  rw [e]
theorem p_lawOf (S : Nat × (Nat → Int32)) {n : Nat} {ξ : Nat → Nat → Int32} {ρ : zRho} (inv : zInv n ξ ρ) (x : Int32) : zPr S jX5_lawOf jX6_lawOf [.int x] n ξ ρ := by
  obtain ⟨K, Kk, sh, sl, L, R, N, hX, hM, hK, hkp, hkk, t1, t2, t3, t4, r1, r2, r3, r4, s1, s2, s3, c1, c2, c3, c4⟩ := inv
  have hm6 := hK.m6
  have hd3 := hK.d3
  have ht60 := hK.t60
  refine ⟨(if 0 ≤ x ∧ x < 5 then K.law x.toNatClampNeg else -1), Zc_mono (d := 39) (c_lawOf (d := 38) x) ?_⟩
  rintro v w ⟨rfl, rfl⟩
  refine ⟨by
      by_cases q : 0 ≤ x ∧ x < 5
      · rw [if_pos q, if_pos q, show ξ 2 x.toNatClampNeg = K.law x.toNatClampNeg from hX.hl _ (zpidx (M := 5) q (by decide))]
      · rw [if_neg q, if_neg q], n, ξ, ρ, rfl, Zc_mono (d := 39) (c_MlawOf (d := 38) hM hK x) ?_⟩
  rintro v w ⟨rfl, rfl⟩
  exact ⟨rfl, n, ξ, ρ, rfl, zInv.cm hkp hkk t1 t2 t3 t4 r1 r2 r3 r4 s1 s2 s3 c1 c2 c3 c4 (fun _ _ => rfl) (zfm.rf _) hX hM hK⟩
theorem p_today (S : Nat × (Nat → Int32)) {n : Nat} {ξ : Nat → Nat → Int32} {ρ : zRho} (inv : zInv n ξ ρ) : zPr S jX5_today jX6_today [] n ξ ρ := by
  obtain ⟨K, Kk, sh, sl, L, R, N, hX, hM, hK, hkp, hkk, t1, t2, t3, t4, r1, r2, r3, r4, s1, s2, s3, c1, c2, c3, c4⟩ := inv
  have hm6 := hK.m6
  have hd3 := hK.d3
  have ht60 := hK.t60
  refine ⟨nI K.T, Zc_mono (d := 39) (c_today (d := 39)) ?_⟩
  rintro v w ⟨rfl, rfl⟩
  refine ⟨congrArg (fun y => some (Value.int y)) hX.ht, n, ξ, ρ, rfl, Zc_mono (d := 39) (c_Mtoday (d := 39) hM hK) ?_⟩
  rintro v w ⟨rfl, rfl⟩
  exact ⟨rfl, n, ξ, ρ, rfl, zInv.cm hkp hkk t1 t2 t3 t4 r1 r2 r3 r4 s1 s2 s3 c1 c2 c3 c4 (fun _ _ => rfl) (zfm.rf _) hX hM hK⟩
theorem p_dateOf (S : Nat × (Nat → Int32)) {n : Nat} {ξ : Nat → Nat → Int32} {ρ : zRho} (inv : zInv n ξ ρ) (x y : Int32) : zPr S jX5_dateOf jX6_dateOf [.int x, .int y] n ξ ρ := by
  obtain ⟨K, Kk, sh, sl, L, R, N, hX, hM, hK, hkp, hkk, t1, t2, t3, t4, r1, r2, r3, r4, s1, s2, s3, c1, c2, c3, c4⟩ := inv
  have hm6 := hK.m6
  have hd3 := hK.d3
  have ht60 := hK.t60
  refine ⟨K.dtOf x y, Zc_mono (d := 39) (c_dateOf (d := 39) hX.hd hd3 x y) ?_⟩
  rintro v w ⟨rfl, rfl⟩
  refine ⟨by
      unfold zCs.dtOf
      rw [show ξ 1 4 = nI K.D from hX.hd]
      by_cases q : ¬ (y = 0 ∨ y = 1)
      · rw [if_pos q, if_pos q]
      rw [if_neg q, if_neg q]
      by_cases q2 : ¬ (0 ≤ x ∧ x < nI K.D)
      · rw [if_pos q2, if_pos q2]
      rw [if_neg q2, if_neg q2]
      have hi := zpidx (Decidable.not_not.mp q2) (by omega)
      rw [show ξ 3 x.toNatClampNeg = K.dd x.toNatClampNeg from hX.hdd _ hi, show ξ 4 x.toNatClampNeg = K.dp x.toNatClampNeg from hX.hdp _ hi], n, ξ, ρ, rfl, Zc_mono (d := 39) (c_MdateOf (d := 38) hM hK x y) ?_⟩
  rintro v w ⟨rfl, rfl⟩
  exact ⟨rfl, n, ξ, ρ, rfl, zInv.cm hkp hkk t1 t2 t3 t4 r1 r2 r3 r4 s1 s2 s3 c1 c2 c3 c4 (fun _ _ => rfl) (zfm.rf _) hX hM hK⟩
theorem p_personOf (S : Nat × (Nat → Int32)) {n : Nat} {ξ : Nat → Nat → Int32} {ρ : zRho} (inv : zInv n ξ ρ) (x y : Int32) : zPr S jX5_personOf jX6_personOf [.int x, .int y] n ξ ρ := by
  obtain ⟨K, Kk, sh, sl, L, R, N, hX, hM, hK, hkp, hkk, t1, t2, t3, t4, r1, r2, r3, r4, s1, s2, s3, c1, c2, c3, c4⟩ := inv
  have hm6 := hK.m6
  have hd3 := hK.d3
  have ht60 := hK.t60
  refine ⟨K.perOf x y, Zc_mono (d := 39) (c_personOf (d := 37) hX.hm hm6 x y) ?_⟩
  rintro v w ⟨rfl, rfl⟩
  refine ⟨by
      unfold zCs.perOf
      rw [show ξ 1 5 = nI K.M from hX.hm]
      by_cases q : 0 ≤ x ∧ x < nI K.M
      · obtain ⟨i, hi, rfl⟩ := zperI rfl (by omega) q
        rw [if_neg (fun z => z q), zper_in hm6 hi, nI_clamp (by omega), hX.hp i hi 0 (by decide), hX.hp i hi 1 (by decide), hX.hp i hi 2 (by decide), hX.hp i hi 3 (by decide), hX.hp i hi 4 (by decide), hX.hp i hi 6 (by decide), show zmarkP ξ 1 (ξ (1 + 5 + i) 5) (K.p i 6) = K.mk' i by rw [← hX.hp i hi 6 (by decide)]; exact hX.mk hi, hX.hp i hi 5 (by decide)]
      · rw [if_pos q, zper_out rfl _ q], n, ξ, ρ, rfl, Zc_mono (d := 39) (c_MpersonOf (d := 37) hM hK x y) ?_⟩
  rintro v w ⟨rfl, rfl⟩
  exact ⟨rfl, n, ξ, ρ, rfl, zInv.cm hkp hkk t1 t2 t3 t4 r1 r2 r3 r4 s1 s2 s3 c1 c2 c3 c4 (fun _ _ => rfl) (zfm.rf _) hX hM hK⟩
theorem p_goal (S : Nat × (Nat → Int32)) {n : Nat} {ξ : Nat → Nat → Int32} {ρ : zRho} (inv : zInv n ξ ρ) (x y : Int32) : zPr S jX5_goal jX6_goal [.int x, .int y] n ξ ρ := by
  obtain ⟨K, Kk, sh, sl, L, R, N, hX, hM, hK, hkp, hkk, t1, t2, t3, t4, r1, r2, r3, r4, s1, s2, s3, c1, c2, c3, c4⟩ := inv
  have hm6 := hK.m6
  have hd3 := hK.d3
  have ht60 := hK.t60
  refine ⟨K.goal x y, Zc_mono (d := 39) (c_goal (d := 36) hX hK x y) ?_⟩
  rintro v w ⟨rfl, rfl⟩
  refine ⟨rfl, n, ξ, ρ, rfl, Zc_mono (d := 39) (c_Mgoal (d := 35) hM hK x y) ?_⟩
  rintro v w ⟨ξ2, rfl, rfl, g2⟩
  exact ⟨rfl, n, ξ2, ρ, rfl, zInv.cm hkp hkk t1 t2 t3 t4 r1 r2 r3 r4 s1 s2 s3 c1 c2 c3 c4 (fun _ _ => rfl) g2.fm hX (g2.mr hM hm6) hK⟩
theorem p_many (S : Nat × (Nat → Int32)) {n : Nat} {ξ : Nat → Nat → Int32} {ρ : zRho} (inv : zInv n ξ ρ) (x : Int32) : zPr S jX5_many jX6_many [.int x] n ξ ρ := by
  obtain ⟨K, Kk, sh, sl, L, R, N, hX, hM, hK, hkp, hkk, t1, t2, t3, t4, r1, r2, r3, r4, s1, s2, s3, c1, c2, c3, c4⟩ := inv
  have hm6 := hK.m6
  have hd3 := hK.d3
  have ht60 := hK.t60
  refine ⟨(if x = 0 then nI K.M else if x = 1 then nI K.D else if x = 2 then zcntF (fun i => ¬ K.p i 5 = -9) K.M else if x = 3 then nI R else if x = 4 then nI L else if x = 5 then nI N else -1), Zc_mono (d := 39) (c_many (d := 37) hX.hm hm6 x) ?_⟩
  rintro v w ⟨rfl, rfl⟩
  refine ⟨by
      rw [show ξ 1 5 = nI K.M from hX.hm, show ξ 1 4 = nI K.D from hX.hd, r1, t1, c1, zcntF_cg K.M (fun i hi => by rw [hX.hp i hi 5 (by decide)])], n, ξ, ρ, rfl, Zc_mono (d := 39) (c_Mmany (d := 39) hM hK x) ?_⟩
  rintro v w ⟨rfl, rfl⟩
  exact ⟨by rw [r2, t2, c2], n, ξ, ρ, rfl, zInv.cm hkp hkk t1 t2 t3 t4 r1 r2 r3 r4 s1 s2 s3 c1 c2 c3 c4 (fun _ _ => rfl) (zfm.rf _) hX hM hK⟩
theorem p_row (S : Nat × (Nat → Int32)) {n : Nat} {ξ : Nat → Nat → Int32} {ρ : zRho} (inv : zInv n ξ ρ) (x y : Int32) : zPr S jX5_row jX6_row [.int x, .int y] n ξ ρ := by
  obtain ⟨K, Kk, sh, sl, L, R, N, hX, hM, hK, hkp, hkk, t1, t2, t3, t4, r1, r2, r3, r4, s1, s2, s3, c1, c2, c3, c4⟩ := inv
  have hm6 := hK.m6
  have hd3 := hK.d3
  have ht60 := hK.t60
  refine ⟨(if 0 ≤ x ∧ x < nI R ∧ 0 ≤ y ∧ y < 3 then ξ 36 (x * 3 + y).toNatClampNeg else -9), Zc_mono (d := 39) (c_row (d := 38) r1 r3 x y) ?_⟩
  rintro v w ⟨rfl, rfl⟩
  refine ⟨by rw [r1], n, ξ, ρ, rfl, Zc_mono (d := 39) (c_Mrow (d := 37) r2 r3 x y) ?_⟩
  rintro v w ⟨rfl, rfl⟩
  exact ⟨by
      by_cases q : 0 ≤ x ∧ x < nI R ∧ 0 ≤ y ∧ y < 3
      · obtain ⟨a, ha, rfl⟩ := zperI (M := R) rfl (by omega) ⟨q.1, q.2.1⟩
        obtain ⟨b, hb, rfl⟩ := zperI (m := 3) (M := 3) rfl (by decide) q.2.2
        rw [if_pos q, if_pos q, zm3k2, nI_clamp (by omega), r4 _ (by omega)]
      · rw [if_neg q, if_neg q], n, ξ, ρ, rfl, zInv.cm hkp hkk t1 t2 t3 t4 r1 r2 r3 r4 s1 s2 s3 c1 c2 c3 c4 (fun _ _ => rfl) (zfm.rf _) hX hM hK⟩
theorem p_item (S : Nat × (Nat → Int32)) {n : Nat} {ξ : Nat → Nat → Int32} {ρ : zRho} (inv : zInv n ξ ρ) (x y z : Int32) : zPr S jX5_item jX6_item [.int x, .int y, .int z] n ξ ρ := by
  obtain ⟨K, Kk, sh, sl, L, R, N, hX, hM, hK, hkp, hkk, t1, t2, t3, t4, r1, r2, r3, r4, s1, s2, s3, c1, c2, c3, c4⟩ := inv
  have hm6 := hK.m6
  have hd3 := hK.d3
  have ht60 := hK.t60
  refine ⟨zitemF sh x y z, Zc_mono (d := 39) (c_item (d := 38) s1 x y z) ?_⟩
  rintro v w ⟨rfl, rfl⟩
  refine ⟨rfl, n, ξ, ρ, rfl, Zc_mono (d := 39) (c_Mitem (d := 37) s2 x y z) ?_⟩
  rintro v w ⟨rfl, rfl⟩
  exact ⟨rfl, n, ξ, ρ, rfl, zInv.cm hkp hkk t1 t2 t3 t4 r1 r2 r3 r4 s1 s2 s3 c1 c2 c3 c4 (fun _ _ => rfl) (zfm.rf _) hX hM hK⟩
theorem p_taken (S : Nat × (Nat → Int32)) {n : Nat} {ξ : Nat → Nat → Int32} {ρ : zRho} (inv : zInv n ξ ρ) (x y : Int32) : zPr S jX5_taken jX6_taken [.int x, .int y] n ξ ρ := by
  obtain ⟨K, Kk, sh, sl, L, R, N, hX, hM, hK, hkp, hkk, t1, t2, t3, t4, r1, r2, r3, r4, s1, s2, s3, c1, c2, c3, c4⟩ := inv
  have hm6 := hK.m6
  have hd3 := hK.d3
  have ht60 := hK.t60
  refine ⟨ztakenF K (ξ 39) sl x y, Zc_mono (d := 39) (c_taken (d := 37) hX hK s1 x y) ?_⟩
  rintro v w ⟨rfl, rfl⟩
  refine ⟨rfl, n, ξ, ρ, rfl, Zc_mono (d := 39) (c_Mtaken (d := 36) hM hK s3 x y) ?_⟩
  rintro v w ⟨rfl, rfl⟩
  exact ⟨rfl, n, ξ, ρ, rfl, zInv.cm hkp hkk t1 t2 t3 t4 r1 r2 r3 r4 s1 s2 s3 c1 c2 c3 c4 (fun _ _ => rfl) (zfm.rf _) hX hM hK⟩
theorem p_trace (S : Nat × (Nat → Int32)) {n : Nat} {ξ : Nat → Nat → Int32} {ρ : zRho} (inv : zInv n ξ ρ) (x : Int32) : zPr S jX5_trace jX6_trace [.int x] n ξ ρ := by
  obtain ⟨K, Kk, sh, sl, L, R, N, hX, hM, hK, hkp, hkk, t1, t2, t3, t4, r1, r2, r3, r4, s1, s2, s3, c1, c2, c3, c4⟩ := inv
  have hm6 := hK.m6
  have hd3 := hK.d3
  have ht60 := hK.t60
  refine ⟨(if 0 ≤ x ∧ x < nI N then ξ 41 x.toNatClampNeg else -3), Zc_mono (d := 39) (c_trace (d := 39) c1 c3 x) ?_⟩
  rintro v w ⟨rfl, rfl⟩
  refine ⟨by rw [c1], n, ξ, ρ, rfl, Zc_mono (d := 39) (c_Mtrace (d := 38) c2 c3 x) ?_⟩
  rintro v w ⟨rfl, rfl⟩
  exact ⟨by rw [c4], n, ξ, ρ, rfl, zInv.cm hkp hkk t1 t2 t3 t4 r1 r2 r3 r4 s1 s2 s3 c1 c2 c3 c4 (fun _ _ => rfl) (zfm.rf _) hX hM hK⟩
