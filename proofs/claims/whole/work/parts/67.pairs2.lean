/-- a call that changes the class alone -/
theorem zInv.cm2 {n : Nat} {ξ ξ1 ξ2 : Nat → Nat → Int32} {ρ : zRho} {Kk K2 : zCs} {sh : zSh} {sl : zSl} {L R N : Nat} (hkp : ξ 42 47 = ξ 0 3) (hkk : ¬ ξ 0 3 = 0 → zXR ξ 12 Kk ∧ zMK ξ Kk ∧ zOK Kk) (t1 : ξ 34 1 = nI L) (t2 : ξ 42 13 = nI L) (t3 : L ≤ 200) (t4 : zBy (ξ 35) (ξ 51) L)
    (r1 : ξ 0 6 = nI R) (r2 : ξ 42 33 = nI R) (r3 : R ≤ 20) (r4 : ∀ k, k < 3 * R → ξ 36 k = ξ 59 k) (s1 : zXS n ρ sh sl) (s2 : zMS ξ ρ.2.2.1 sh) (s3 : zML ξ (ξ 39) sl) (c1 : ξ 40 1 = nI N) (c2 : ξ 42 45 = nI N) (c3 : N ≤ 30) (c4 : ξ 67 = ξ 41)
    (f : zfC ξ ξ1) (g : (∀ a, (a < 42 ∨ 51 ≤ a) → a ≠ 60 → a ≠ 69 → ξ2 a = ξ1 a) ∧ ∀ k, (k = 13 ∨ k = 33 ∨ k = 45 ∨ k = 47) → ξ2 42 k = ξ1 42 k) (x2 : zXR ξ1 1 K2) (m2 : zMR ξ2 0 K2) (ok : zOK K2) : zInv n ξ2 ρ := by
  have lo : ∀ a, a < 42 → ξ2 a = ξ1 a := fun a ha => g.1 a (Or.inl ha) (by omega) (by omega)
  have hi : ∀ a, 51 ≤ a → a ≠ 60 ∧ a ≠ 69 → ξ2 a = ξ a := fun a ha hb => (g.1 a (Or.inr ha) hb.1 hb.2).trans (f a (by omega))
  have l0 : ξ2 0 = ξ 0 := (lo 0 (by decide)).trans (f 0 (by decide))
  have ll : ∀ a, 34 ≤ a → a < 42 → ξ2 a = ξ a := fun a h1 h2 => (lo a h2).trans (f a (by omega))
  have k42 : ∀ k, (k = 13 ∨ k = 33 ∨ k = 45 ∨ k = 47) → ξ2 42 k = ξ 42 k := fun k hk => (g.2 k hk).trans (by rw [f 42 (by decide)])
  refine ⟨K2, Kk, sh, sl, L, R, N, x2.fr ok.m6 (fun a h1 h2 => lo a (by omega)), m2, ok, ?_, ?_, ?_, ?_, t3, ?_, ?_, ?_, r3, ?_, s1, ?_, ?_, ?_, ?_, c3, ?_⟩
  · rw [k42 47 (by decide), l0]
    exact hkp
  · rw [l0]
    intro q
    obtain ⟨a1, a2, a3⟩ := hkk q
    exact ⟨a1.fr a3.m6 (fun a h1 h2 => (lo a (by omega)).trans (f a (by omega))), a2.of (hi 68 (by decide) (by decide)), a3⟩
  · rw [ll 34 (by decide) (by decide)]
    exact t1
  · rw [k42 13 (by decide)]
    exact t2
  · rw [ll 35 (by decide) (by decide), hi 51 (by decide) (by decide)]
    exact t4
  · rw [l0]
    exact r1
  · rw [k42 33 (by decide)]
    exact r2
  · rw [ll 36 (by decide) (by decide), hi 59 (by decide) (by decide)]
    exact r4
  · exact s2.of (hi 61 (by decide) (by decide)) (hi 62 (by decide) (by decide))
  · rw [ll 39 (by decide) (by decide)]
    exact s3.of (hi 64 (by decide) (by decide)) (hi 65 (by decide) (by decide)) (hi 66 (by decide) (by decide))
  · rw [ll 40 (by decide) (by decide)]
    exact c1
  · rw [k42 45 (by decide)]
    exact c2
  · rw [ll 41 (by decide) (by decide), hi 67 (by decide) (by decide)]
    exact c4
theorem zbase {ξ ξ2 : Nat → Nat → Int32} {K Kk : zCs} (hX : zXR ξ 1 K) (hM : zMR ξ 0 K) (hK : zOK K) (hkp : ξ 42 47 = ξ 0 3) (hkk : ¬ ξ 0 3 = 0 → zXR ξ 12 Kk ∧ zMK ξ Kk ∧ zOK Kk) (f : ∀ a, (1 ≤ a ∧ a < 23) ∨ (43 ≤ a ∧ a < 51) ∨ a = 68 → ξ2 a = ξ a) (f42 : ∀ k, k = 1 ∨ k = 4 ∨ k = 10 ∨ k = 11 ∨ k = 47 → ξ2 42 k = ξ 42 k) (f0 : ξ2 0 3 = ξ 0 3) : zXR ξ2 1 K ∧ zMR ξ2 0 K ∧ zOK K ∧ ξ2 42 47 = ξ2 0 3 ∧ (¬ ξ2 0 3 = 0 → zXR ξ2 12 Kk ∧ zMK ξ2 Kk ∧ zOK Kk) := by
  refine ⟨hX.fr hK.m6 (fun a h1 h2 => f a (by omega)), hM.fr hK.m6 (fun b h1 h2 => f b (by omega)) (fun k hk => f42 k (by omega)) (fun k _ _ => by rw [f 50 (by omega)]), hK, ?_, fun q => ?_⟩
  · rw [f42 47 (by omega), f0]
    exact hkp
  · rw [f0] at q
    obtain ⟨a1, a2, a3⟩ := hkk q
    exact ⟨a1.fr a3.m6 (fun a h1 h2 => f a (by omega)), a2.of (f 68 (by omega)), a3⟩
theorem p_prove (S : Nat × (Nat → Int32)) {n : Nat} {ξ : Nat → Nat → Int32} {ρ : zRho} (inv : zInv n ξ ρ) (x y : Int32) : zPr S jX5_prove jX6_prove [.int x, .int y] n ξ ρ := by
  obtain ⟨K, Kk, sh, sl, L, R, N, hX, hM, hK, hkp, hkk, t1, t2, t3, t4, r1, r2, r3, r4, s1, s2, s3, c1, c2, c3, c4⟩ := inv
  have hm6 := hK.m6
  have hd3 := hK.d3
  have ht60 := hK.t60
  by_cases q : (0 ≤ x ∧ x < nI K.M) ∧ 1 ≤ y ∧ y ≤ 20
  · obtain ⟨i, hi, rfl⟩ := zperI rfl (by omega) q.1
    obtain ⟨m, hm, rfl⟩ := zbetI (k := 20) rfl (by decide) (Int32.le_trans (by decide) q.2.1) q.2.2
    have hm1 : 1 ≤ m := (nI_leI (a := 1) (by decide) (by omega)).mp q.2.1
    refine ⟨nI (min m (60 - K.T)), Zc_mono (d := 39) (c_prove (d := 35) hX hK _ _) ?_⟩
    rintro v w ⟨_, h2⟩
    obtain ⟨ξ1, rfl, rfl, e6, e0, e36, fr1⟩ := h2 i m rfl hi rfl hm1 hm
    refine ⟨rfl, n, ξ1, ρ, rfl, Zc_mono (d := 39) (c_Mprove (d := 33) (hM.of hm6 (fun a ha => fr1 a (by omega) (by omega) (by omega))) hK _ _) ?_⟩
    rintro v w ⟨_, h2⟩
    obtain ⟨ξ2, rfl, rfl, e33, e59, m2, g1, g2⟩ := h2 i m rfl hi rfl hm1 hm
    refine ⟨rfl, n, ξ2, ρ, rfl, ?_⟩
    have lo : ∀ a, (1 ≤ a ∧ a < 23) ∨ (34 ≤ a ∧ a < 42 ∧ a ≠ 36) ∨ (51 ≤ a ∧ a ≠ 59 ∧ a ≠ 60) → ξ2 a = ξ a := fun a ha => (g1 a (by omega) (by omega) (by omega)).trans (fr1 a (by omega) (by omega) (by omega))
    have l0 : ξ2 0 = ξ1 0 := g1 0 (by omega) (by omega) (by omega)
    have e42 : ξ1 42 = ξ 42 := fr1 42 (by omega) (by omega) (by omega)
    refine ⟨K, Kk, sh, sl, L, min m (60 - K.T), N, hX.fr hm6 (fun a h1 h2 => lo a (by omega)), m2, hK, ?_, ?_, ?_, ?_, t3, ?_, ?_, e33, by omega, ?_, s1, ?_, ?_, ?_, ?_, c3, ?_⟩
    · rw [g2 47 (by omega), e42, l0, e0 3 (by decide)]
      exact hkp
    · rw [l0, e0 3 (by decide)]
      intro q
      obtain ⟨a1, a2, a3⟩ := hkk q
      exact ⟨a1.fr a3.m6 (fun a h1 h2 => lo a (by omega)), a2.of (lo 68 (by omega)), a3⟩
    · rw [lo 34 (by omega)]
      exact t1
    · rw [g2 13 (by omega), e42]
      exact t2
    · rw [lo 35 (by omega), lo 51 (by omega)]
      exact t4
    · rw [l0]
      exact e6
    · intro k hk
      rw [g1 36 (by omega) (by omega) (by omega), e36 k hk, e59 k hk]
    · exact s2.of (lo 61 (by omega)) (lo 62 (by omega))
    · rw [lo 39 (by omega)]
      exact s3.of (lo 64 (by omega)) (lo 65 (by omega)) (lo 66 (by omega))
    · rw [lo 40 (by omega)]
      exact c1
    · rw [g2 45 (by omega), e42]
      exact c2
    · rw [lo 41 (by omega), lo 67 (by omega)]
      exact c4
  · refine ⟨-1, Zc_mono (d := 39) (c_prove (d := 35) hX hK x y) ?_⟩
    rintro v w ⟨h1, _⟩
    obtain ⟨rfl, rfl⟩ := h1 q
    refine ⟨rfl, n, ξ, ρ, rfl, Zc_mono (d := 39) (c_Mprove (d := 33) hM hK x y) ?_⟩
    rintro v w ⟨h1, _⟩
    obtain ⟨rfl, rfl⟩ := h1 q
    exact ⟨rfl, n, ξ, ρ, rfl, zInv.cm hkp hkk t1 t2 t3 t4 r1 r2 r3 r4 s1 s2 s3 c1 c2 c3 c4 (fun _ _ => rfl) (zfm.rf _) hX hM hK⟩
theorem p_alterRow (S : Nat × (Nat → Int32)) {n : Nat} {ξ : Nat → Nat → Int32} {ρ : zRho} (inv : zInv n ξ ρ) (x y z : Int32) : zPr S jX5_alterRow jX6_alterRow [.int x, .int y, .int z] n ξ ρ := by
  obtain ⟨K, Kk, sh, sl, L, R, N, hX, hM, hK, hkp, hkk, t1, t2, t3, t4, r1, r2, r3, r4, s1, s2, s3, c1, c2, c3, c4⟩ := inv
  have hm6 := hK.m6
  have hd3 := hK.d3
  have ht60 := hK.t60
  by_cases q : 0 ≤ x ∧ x < nI R ∧ 0 ≤ y ∧ y < 3
  · obtain ⟨a, ha, rfl⟩ := zperI (M := R) rfl (by omega) ⟨q.1, q.2.1⟩
    obtain ⟨b, hb, rfl⟩ := zperI (m := 3) (M := 3) rfl (by decide) q.2.2
    have ei : (nI a * 3 + nI b).toNatClampNeg = a * 3 + b := by rw [zm3k2, nI_clamp (by omega)]
    refine ⟨ξ 36 (a * 3 + b), Zc_mono (d := 39) (c_alterRow (d := 38) r1 r3 _ _ z) ?_⟩
    rintro v w ⟨_, h2⟩
    obtain ⟨rfl, rfl⟩ := h2 (by rw [r1]; exact q)
    rw [ei]
    refine ⟨rfl, n, _, ρ, rfl, Zc_mono (d := 39) (c_MalterRow (d := 37) (ξ := zu ξ 36 (a * 3 + b) z) r2 r3 _ _ z) ?_⟩
    rintro v w ⟨_, h2⟩
    obtain ⟨rfl, rfl⟩ := h2 q
    rw [ei]
    refine ⟨?_, n, _, ρ, rfl, ?_⟩
    · rw [zun (by decide), r4 _ (by omega)]
    have lo : ∀ c, c ≠ 36 → c ≠ 59 → zu (zu ξ 36 (a * 3 + b) z) 59 (a * 3 + b) z c = ξ c := fun c h1 h2 => by rw [zun h2, zun h1]
    obtain ⟨b1, b2, b3, b4, b5⟩ := zbase hX hM hK hkp hkk (fun c hc => lo c (by omega) (by omega)) (fun k _ => by rw [lo 42 (by decide) (by decide)]) (by rw [lo 0 (by decide) (by decide)])
    refine ⟨K, Kk, sh, sl, L, R, N, b1, b2, b3, b4, b5, t1, t2, t3, t4, r1, r2, r3, ?_, s1, s2, s3, c1, c2, c3, c4⟩
    intro k hk
    rw [zun (by decide)]
    by_cases e : k = a * 3 + b
    · rw [e, zu_same, zu_same]
    · rw [zu_ne (Or.inr e), zu_ne (Or.inr e), zun (by decide)]
      exact r4 k hk
  · refine ⟨-9, Zc_mono (d := 39) (c_alterRow (d := 38) r1 r3 x y z) ?_⟩
    rintro v w ⟨h1, _⟩
    obtain ⟨rfl, rfl⟩ := h1 (by rw [r1]; exact q)
    refine ⟨rfl, n, ξ, ρ, rfl, Zc_mono (d := 39) (c_MalterRow (d := 37) r2 r3 x y z) ?_⟩
    rintro v w ⟨h1, _⟩
    obtain ⟨rfl, rfl⟩ := h1 q
    exact ⟨rfl, n, ξ, ρ, rfl, zInv.cm hkp hkk t1 t2 t3 t4 r1 r2 r3 r4 s1 s2 s3 c1 c2 c3 c4 (fun _ _ => rfl) (zfm.rf _) hX hM hK⟩
theorem p_sheet (S : Nat × (Nat → Int32)) {n : Nat} {ξ : Nat → Nat → Int32} {ρ : zRho} (inv : zInv n ξ ρ) (x y z : Int32) : zPr S jX5_sheet jX6_sheet [.int x, .int y, .int z] n ξ ρ := by
  obtain ⟨K, Kk, sh, sl, L, R, N, hX, hM, hK, hkp, hkk, t1, t2, t3, t4, r1, r2, r3, r4, s1, s2, s3, c1, c2, c3, c4⟩ := inv
  have hm6 := hK.m6
  have hd3 := hK.d3
  have ht60 := hK.t60
  refine ⟨(zsheetF sh x y z).2, Zc_mono (d := 39) (c_sheet (d := 38) s1 x y z) ?_⟩
  rintro v w ⟨n1, ρ1, rfl, rfl, xs, eq⟩
  have er : ρ1.2.2.1 = ρ.2.2.1 := congrArg (fun q : Value × Int64 × (Nat → Int64) => q.2.2) eq
  refine ⟨rfl, n1, ξ, ρ1, rfl, Zc_mono (d := 39) (c_Msheet (d := 37) (by rw [er]; exact s2) x y z) ?_⟩
  rintro v w ⟨ξ2, g, rfl, rfl, ms, fr⟩
  obtain ⟨b1, b2, b3, b4, b5⟩ := zbase (ξ2 := ξ2) hX hM hK hkp hkk (fun c hc => fr c (by omega) (by omega)) (fun k _ => by rw [fr 42 (by decide) (by decide)]) (by rw [fr 0 (by decide) (by decide)])
  refine ⟨rfl, n1, ξ2, zρm ρ1 g, rfl, ⟨K, Kk, _, sl, L, R, N, b1, b2, b3, b4, b5, ?_, ?_, t3, ?_, ?_, ?_, r3, ?_, xs, ms, ?_, ?_, ?_, c3, ?_⟩⟩
  · rw [fr 34 (by decide) (by decide)]; exact t1
  · rw [fr 42 (by decide) (by decide)]; exact t2
  · rw [fr 35 (by decide) (by decide), fr 51 (by decide) (by decide)]; exact t4
  · rw [fr 0 (by decide) (by decide)]; exact r1
  · rw [fr 42 (by decide) (by decide)]; exact r2
  · rw [fr 36 (by decide) (by decide), fr 59 (by decide) (by decide)]; exact r4
  · rw [fr 39 (by decide) (by decide)]; exact s3.of (fr 64 (by decide) (by decide)) (fr 65 (by decide) (by decide)) (fr 66 (by decide) (by decide))
  · rw [fr 40 (by decide) (by decide)]; exact c1
  · rw [fr 42 (by decide) (by decide)]; exact c2
  · rw [fr 67 (by decide) (by decide), fr 41 (by decide) (by decide)]; exact c4
theorem p_put (S : Nat × (Nat → Int32)) {n : Nat} {ξ : Nat → Nat → Int32} {ρ : zRho} (inv : zInv n ξ ρ) (x y z : Int32) : zPr S jX5_put jX6_put [.int x, .int y, .int z] n ξ ρ := by
  obtain ⟨K, Kk, sh, sl, L, R, N, hX, hM, hK, hkp, hkk, t1, t2, t3, t4, r1, r2, r3, r4, s1, s2, s3, c1, c2, c3, c4⟩ := inv
  have hm6 := hK.m6
  have hd3 := hK.d3
  have ht60 := hK.t60
  refine ⟨(zputF sh x y z).2, Zc_mono (d := 39) (c_put (d := 38) s1 x y z) ?_⟩
  rintro v w ⟨ρ1, rfl, rfl, xs, eq⟩
  have er : ρ1.2.2.1 = ρ.2.2.1 := congrArg (fun q : Value × Int64 × (Nat → Int64) => q.2.2) eq
  refine ⟨rfl, n, ξ, ρ1, rfl, Zc_mono (d := 39) (c_Mput (d := 37) (by rw [er]; exact s2) x y z) ?_⟩
  rintro v w ⟨ξ2, g, rfl, rfl, ms, fr⟩
  obtain ⟨b1, b2, b3, b4, b5⟩ := zbase (ξ2 := ξ2) hX hM hK hkp hkk (fun c hc => fr c (by omega) (by omega)) (fun k _ => by rw [fr 42 (by decide) (by decide)]) (by rw [fr 0 (by decide) (by decide)])
  refine ⟨rfl, n, ξ2, zρm ρ1 g, rfl, ⟨K, Kk, _, sl, L, R, N, b1, b2, b3, b4, b5, ?_, ?_, t3, ?_, ?_, ?_, r3, ?_, xs, ms, ?_, ?_, ?_, c3, ?_⟩⟩
  · rw [fr 34 (by decide) (by decide)]; exact t1
  · rw [fr 42 (by decide) (by decide)]; exact t2
  · rw [fr 35 (by decide) (by decide), fr 51 (by decide) (by decide)]; exact t4
  · rw [fr 0 (by decide) (by decide)]; exact r1
  · rw [fr 42 (by decide) (by decide)]; exact r2
  · rw [fr 36 (by decide) (by decide), fr 59 (by decide) (by decide)]; exact r4
  · rw [fr 39 (by decide) (by decide)]; exact s3.of (fr 64 (by decide) (by decide)) (fr 65 (by decide) (by decide)) (fr 66 (by decide) (by decide))
  · rw [fr 40 (by decide) (by decide)]; exact c1
  · rw [fr 42 (by decide) (by decide)]; exact c2
  · rw [fr 67 (by decide) (by decide), fr 41 (by decide) (by decide)]; exact c4
theorem p_shelf (S : Nat × (Nat → Int32)) {n : Nat} {ξ : Nat → Nat → Int32} {ρ : zRho} (inv : zInv n ξ ρ) (x y z : Int32) : zPr S jX5_shelf jX6_shelf [.int x, .int y, .int z] n ξ ρ := by
  obtain ⟨K, Kk, sh, sl, L, R, N, hX, hM, hK, hkp, hkk, t1, t2, t3, t4, r1, r2, r3, r4, s1, s2, s3, c1, c2, c3, c4⟩ := inv
  have hm6 := hK.m6
  have hd3 := hK.d3
  have ht60 := hK.t60
  refine ⟨(zshelfF K sh (ξ 39) sl x y z).2.2, Zc_mono (d := 39) (c_shelf (d := 37) hX s1 x y z) ?_⟩
  rintro v w ⟨ξ1, ρ1, rfl, rfl, e39, xs, eq, fr⟩
  have er : ρ1.2.2.1 = ρ.2.2.1 := congrArg (fun q : Value × Int64 × (Nat → Int64) => q.2.2) eq
  refine ⟨rfl, n, ξ1, ρ1, rfl, Zc_mono (d := 39) (c_Mshelf (d := 36) (hM.of hm6 (fun a ha => fr a (by omega))) hK (sh := sh) (by rw [er]; exact s2.of (fr 61 (by decide)) (fr 62 (by decide))) (s3.of (fr 64 (by decide)) (fr 65 (by decide)) (fr 66 (by decide))) x y z) ?_⟩
  rintro v w ⟨ξ2, rfl, rfl, ml, fr2⟩
  have lo : ∀ a, a ≠ 39 → a ≠ 64 → a ≠ 65 → a ≠ 66 → ξ2 a = ξ a := fun a h1 h2 h3 h4 => (fr2 a h2 h3 h4).trans (fr a h1)
  obtain ⟨b1, b2, b3, b4, b5⟩ := zbase (ξ2 := ξ2) hX hM hK hkp hkk (fun c hc => lo c (by omega) (by omega) (by omega) (by omega)) (fun k _ => by rw [lo 42 (by decide) (by decide) (by decide) (by decide)]) (by rw [lo 0 (by decide) (by decide) (by decide) (by decide)])
  refine ⟨rfl, n, ξ2, ρ1, rfl, ⟨K, Kk, sh, _, L, R, N, b1, b2, b3, b4, b5, ?_, ?_, t3, ?_, ?_, ?_, r3, ?_, xs, ?_, ?_, ?_, ?_, c3, ?_⟩⟩
  · rw [lo 34 (by decide) (by decide) (by decide) (by decide)]; exact t1
  · rw [lo 42 (by decide) (by decide) (by decide) (by decide)]; exact t2
  · rw [lo 35 (by decide) (by decide) (by decide) (by decide), lo 51 (by decide) (by decide) (by decide) (by decide)]; exact t4
  · rw [lo 0 (by decide) (by decide) (by decide) (by decide)]; exact r1
  · rw [lo 42 (by decide) (by decide) (by decide) (by decide)]; exact r2
  · rw [lo 36 (by decide) (by decide) (by decide) (by decide), lo 59 (by decide) (by decide) (by decide) (by decide)]; exact r4
  · rw [er]; exact s2.of (lo 61 (by decide) (by decide) (by decide) (by decide)) (lo 62 (by decide) (by decide) (by decide) (by decide))
  · rw [fr2 39 (by decide) (by decide) (by decide), e39]; exact ml
  · rw [lo 40 (by decide) (by decide) (by decide) (by decide)]; exact c1
  · rw [lo 42 (by decide) (by decide) (by decide) (by decide)]; exact c2
  · rw [lo 67 (by decide) (by decide) (by decide) (by decide), lo 41 (by decide) (by decide) (by decide) (by decide)]; exact c4
theorem p_act (S : Nat × (Nat → Int32)) {n : Nat} {ξ : Nat → Nat → Int32} {ρ : zRho} (inv : zInv n ξ ρ) (x y z : Int32) : zPr S jX5_act jX6_act [.int x, .int y, .int z] n ξ ρ := by
  obtain ⟨K, Kk, sh, sl, L, R, N, hX, hM, hK, hkp, hkk, t1, t2, t3, t4, r1, r2, r3, r4, s1, s2, s3, c1, c2, c3, c4⟩ := inv
  have hm6 := hK.m6
  have hd3 := hK.d3
  have ht60 := hK.t60
  refine ⟨(zactF K (ξ 39) (ξ 41) x y z).1, Zc_mono (d := 39) (c_act (d := 30) hX hK x y z) ?_⟩
  rintro v w ⟨ξ1, rfl, rfl, a1, a2, a3, _, fr⟩
  refine ⟨rfl, n, ξ1, ρ, rfl, Zc_mono (d := 39) (c_Mact (d := 31) (hM.of hm6 (fun a ha => fr a (by omega) (by omega))) hK (s3.of (fr 64 (by decide) (by decide)) (fr 65 (by decide) (by decide)) (fr 66 (by decide) (by decide))) x y z) ?_⟩
  rintro v w ⟨ξ2, rfl, rfl, d1, d2, fb, fk⟩
  have e67 : ξ1 67 = ξ 41 := (fr 67 (by decide) (by decide)).trans c4
  rw [e67] at d1 d2 ⊢
  have lo : ∀ a, a ≠ 40 → a ≠ 41 → a ≠ 42 → a ≠ 67 → ξ2 a = ξ a := fun a h1 h2 h3 h4 => (fb a h3 h4).trans (fr a h1 h2)
  have k42 : ∀ k, k ≠ 41 → k ≠ 42 → k ≠ 43 → k ≠ 45 → k ≠ 46 → ξ2 42 k = ξ 42 k := fun k h1 h2 h3 h4 h5 => (fk k h1 h2 h3 h4 h5).trans (by rw [fr 42 (by decide) (by decide)])
  obtain ⟨b1, b2, b3, b4, b5⟩ := zbase (ξ2 := ξ2) hX hM hK hkp hkk (fun c hc => lo c (by omega) (by omega) (by omega) (by omega)) (fun k hk => k42 k (by omega) (by omega) (by omega) (by omega) (by omega)) (by rw [lo 0 (by decide) (by decide) (by decide) (by decide)])
  refine ⟨rfl, n, ξ2, ρ, rfl, ⟨K, Kk, sh, sl, L, R, (zactF K (ξ 39) (ξ 41) x y z).2.1, b1, b2, b3, b4, b5, ?_, ?_, t3, ?_, ?_, ?_, r3, ?_, s1, ?_, ?_, ?_, d1, a2, ?_⟩⟩
  · rw [lo 34 (by decide) (by decide) (by decide) (by decide)]; exact t1
  · rw [k42 13 (by decide) (by decide) (by decide) (by decide) (by decide)]; exact t2
  · rw [lo 35 (by decide) (by decide) (by decide) (by decide), lo 51 (by decide) (by decide) (by decide) (by decide)]; exact t4
  · rw [lo 0 (by decide) (by decide) (by decide) (by decide)]; exact r1
  · rw [k42 33 (by decide) (by decide) (by decide) (by decide) (by decide)]; exact r2
  · rw [lo 36 (by decide) (by decide) (by decide) (by decide), lo 59 (by decide) (by decide) (by decide) (by decide)]; exact r4
  · exact s2.of (lo 61 (by decide) (by decide) (by decide) (by decide)) (lo 62 (by decide) (by decide) (by decide) (by decide))
  · rw [lo 39 (by decide) (by decide) (by decide) (by decide)]; exact s3.of (lo 64 (by decide) (by decide) (by decide) (by decide)) (lo 65 (by decide) (by decide) (by decide) (by decide)) (lo 66 (by decide) (by decide) (by decide) (by decide))
  · rw [fb 40 (by decide) (by decide)]; exact a1
  · rw [d2, fb 41 (by decide) (by decide), a3]
theorem p_keep (S : Nat × (Nat → Int32)) {n : Nat} {ξ : Nat → Nat → Int32} {ρ : zRho} (inv : zInv n ξ ρ) : zPr S jX5_keep jX6_keep [] n ξ ρ := by
  obtain ⟨K, Kk, sh, sl, L, R, N, hX, hM, hK, hkp, hkk, t1, t2, t3, t4, r1, r2, r3, r4, s1, s2, s3, c1, c2, c3, c4⟩ := inv
  have hm6 := hK.m6
  have hd3 := hK.d3
  have ht60 := hK.t60
  refine ⟨1, Zc_mono (d := 39) (c_keep (d := 37) hX hK) ?_⟩
  rintro v w ⟨ξ1, rfl, rfl, x12, e03, e0, fr⟩
  refine ⟨rfl, n, ξ1, ρ, rfl, Zc_mono (d := 39) (c_Mkeep (d := 37) (hM.of hm6 (fun a ha => fr a (by omega) (by omega))) hK) ?_⟩
  rintro v w ⟨ξ2, rfl, rfl, mk, m2, e47, fk, fb⟩
  have lo : ∀ a, a ≠ 0 → (a < 12 ∨ 23 ≤ a) → a ≠ 42 → a ≠ 68 → a ≠ 69 → ξ2 a = ξ a := fun a h1 h2 h3 h4 h5 => (fb a h3 h4 h5).trans (fr a h1 h2)
  have l0 : ξ2 0 = ξ1 0 := fb 0 (by decide) (by decide) (by decide)
  have k42 : ∀ k, k ≠ 47 → k ≠ 49 → ξ2 42 k = ξ 42 k := fun k h1 h2 => (fk k h1 h2).trans (by rw [fr 42 (by decide) (by decide)])
  refine ⟨rfl, n, ξ2, ρ, rfl, ⟨K, K, sh, sl, L, R, N, hX.fr hm6 (fun a h1 h2 => lo a (by omega) (by omega) (by omega) (by omega) (by omega)), m2, hK, ?_, fun _ => ⟨x12.fr hm6 (fun a h1 h2 => fb a (by omega) (by omega) (by omega)), mk, hK⟩, ?_, ?_, t3, ?_, ?_, ?_, r3, ?_, s1, ?_, ?_, ?_, ?_, c3, ?_⟩⟩
  · rw [e47, l0, e03]
  · rw [lo 34 (by decide) (by decide) (by decide) (by decide) (by decide)]; exact t1
  · rw [k42 13 (by decide) (by decide)]; exact t2
  · rw [lo 35 (by decide) (by decide) (by decide) (by decide) (by decide), lo 51 (by decide) (by decide) (by decide) (by decide) (by decide)]; exact t4
  · rw [l0, e0 6 (by decide)]; exact r1
  · rw [k42 33 (by decide) (by decide)]; exact r2
  · rw [lo 36 (by decide) (by decide) (by decide) (by decide) (by decide), lo 59 (by decide) (by decide) (by decide) (by decide) (by decide)]; exact r4
  · exact s2.of (lo 61 (by decide) (by decide) (by decide) (by decide) (by decide)) (lo 62 (by decide) (by decide) (by decide) (by decide) (by decide))
  · rw [lo 39 (by decide) (by decide) (by decide) (by decide) (by decide)]; exact s3.of (lo 64 (by decide) (by decide) (by decide) (by decide) (by decide)) (lo 65 (by decide) (by decide) (by decide) (by decide) (by decide)) (lo 66 (by decide) (by decide) (by decide) (by decide) (by decide))
  · rw [lo 40 (by decide) (by decide) (by decide) (by decide) (by decide)]; exact c1
  · rw [k42 45 (by decide) (by decide)]; exact c2
  · rw [lo 67 (by decide) (by decide) (by decide) (by decide) (by decide), lo 41 (by decide) (by decide) (by decide) (by decide) (by decide)]; exact c4
theorem p_again (S : Nat × (Nat → Int32)) {n : Nat} {ξ : Nat → Nat → Int32} {ρ : zRho} (inv : zInv n ξ ρ) : zPr S jX5_again jX6_again [] n ξ ρ := by
  obtain ⟨K, Kk, sh, sl, L, R, N, hX, hM, hK, hkp, hkk, t1, t2, t3, t4, r1, r2, r3, r4, s1, s2, s3, c1, c2, c3, c4⟩ := inv
  have hm6 := hK.m6
  have hd3 := hK.d3
  have ht60 := hK.t60
  by_cases q : ξ 0 3 = 0
  · refine ⟨-3, Zc_mono (d := 39) (c_again (d := 37) (K := Kk) (fun z => absurd q z)) ?_⟩
    rintro v w ⟨h1, _⟩
    obtain ⟨rfl, rfl⟩ := h1 q
    refine ⟨rfl, n, ξ, ρ, rfl, Zc_mono (d := 39) (c_Magain (d := 37) (K2 := Kk) hM (fun z => absurd (hkp.trans q) z)) ?_⟩
    rintro v w ⟨h1, _⟩
    obtain ⟨rfl, rfl⟩ := h1 (hkp.trans q)
    exact ⟨rfl, n, ξ, ρ, rfl, zInv.cm hkp hkk t1 t2 t3 t4 r1 r2 r3 r4 s1 s2 s3 c1 c2 c3 c4 (fun _ _ => rfl) (zfm.rf _) hX hM hK⟩
  · obtain ⟨k1, k2, k3⟩ := hkk q
    refine ⟨nI Kk.T, Zc_mono (d := 39) (c_again (d := 37) (K := Kk) (fun _ => ⟨k1, k3⟩)) ?_⟩
    rintro v w ⟨_, h2⟩
    obtain ⟨ξ1, rfl, rfl, x1, f1⟩ := h2 q
    have e47 : ¬ ξ1 42 47 = 0 := by rw [f1 42 (by omega), hkp]; exact q
    refine ⟨rfl, n, ξ1, ρ, rfl, Zc_mono (d := 39) (c_Magain (d := 37) (K2 := Kk) (hM.of hm6 (fun a ha => f1 a (by omega))) (fun _ => ⟨k2.of (f1 68 (by omega)), k3⟩)) ?_⟩
    rintro v w ⟨_, h2⟩
    obtain ⟨ξ2, rfl, rfl, m2, fk, fb⟩ := h2 e47
    exact ⟨rfl, n, ξ2, ρ, rfl, zInv.cm2 hkp hkk t1 t2 t3 t4 r1 r2 r3 r4 s1 s2 s3 c1 c2 c3 c4 (zfC1 f1) ⟨fun a h1 _ h3 => fb a h1 h3, fk⟩ x1 m2 k3⟩
theorem p_feed (S : Nat × (Nat → Int32)) {n : Nat} {ξ : Nat → Nat → Int32} {ρ : zRho} (inv : zInv n ξ ρ) (e : Int64) (x : Int32) : zPr S jX5_feed jX6_feed [.long e, .int x] n ξ ρ := by
  obtain ⟨K, Kk, sh, sl, L, R, N, hX, hM, hK, hkp, hkk, t1, t2, t3, t4, r1, r2, r3, r4, s1, s2, s3, c1, c2, c3, c4⟩ := inv
  have hm6 := hK.m6
  have hd3 := hK.d3
  have ht60 := hK.t60
  by_cases q : 1 ≤ x ∧ x ≤ 8
  · obtain ⟨m, hm, rfl⟩ := zbetI (k := 8) rfl (by decide) (Int32.le_trans (by decide) q.1) q.2
    have hm1 : 1 ≤ m := (nI_leI (a := 1) (by decide) (by omega)).mp q.1
    by_cases q2 : 200 < L + m
    · refine ⟨-2, Zc_mono (d := 39) (c_feed (d := 38) t1 t3 e _) ?_⟩
      rintro v w ⟨_, h2⟩
      obtain ⟨rfl, rfl⟩ := (h2 m rfl hm1 hm).1 q2
      refine ⟨rfl, n, ξ, ρ, rfl, Zc_mono (d := 39) (c_Mfeed (d := 38) t2 t3 e _) ?_⟩
      rintro v w ⟨_, h2⟩
      obtain ⟨rfl, rfl⟩ := (h2 m rfl hm1 hm).1 q2
      exact ⟨rfl, n, ξ, ρ, rfl, zInv.cm hkp hkk t1 t2 t3 t4 r1 r2 r3 r4 s1 s2 s3 c1 c2 c3 c4 (fun _ _ => rfl) (zfm.rf _) hX hM hK⟩
    · refine ⟨nI (L + m), Zc_mono (d := 39) (c_feed (d := 38) t1 t3 e _) ?_⟩
      rintro v w ⟨_, h2⟩
      obtain ⟨ξ1, rfl, rfl, e1, e35, fr⟩ := (h2 m rfl hm1 hm).2 (by omega)
      refine ⟨rfl, n, ξ1, ρ, rfl, Zc_mono (d := 39) (c_Mfeed (d := 38) (L := L) (by rw [fr 42 (by decide) (by decide)]; exact t2) t3 e _) ?_⟩
      rintro v w ⟨_, h2⟩
      obtain ⟨ξ2, rfl, rfl, e13, eb, eo, fk, fb⟩ := (h2 m rfl hm1 hm).2 (by omega)
      have lo : ∀ a, a ≠ 34 → a ≠ 35 → a ≠ 42 → a ≠ 51 → ξ2 a = ξ a := fun a h1 h2 h3 h4 => (fb a h3 h4).trans (fr a h1 h2)
      have k42 : ∀ k, k ≠ 13 → ξ2 42 k = ξ 42 k := fun k h1 => (fk k h1).trans (by rw [fr 42 (by decide) (by decide)])
      obtain ⟨b1, b2, b3, b4, b5⟩ := zbase (ξ2 := ξ2) hX hM hK hkp hkk (fun c hc => lo c (by omega) (by omega) (by omega) (by omega)) (fun k hk => k42 k (by omega)) (by rw [lo 0 (by decide) (by decide) (by decide) (by decide)])
      refine ⟨rfl, n, ξ2, ρ, rfl, ⟨K, Kk, sh, sl, L + m, R, N, b1, b2, b3, b4, b5, ?_, e13, by omega, ?_, ?_, ?_, r3, ?_, s1, ?_, ?_, ?_, ?_, c3, ?_⟩⟩
      · rw [fb 34 (by decide) (by decide)]; exact e1
      · rw [fb 35 (by decide) (by decide), e35]
        exact t4.feed hm e eb (fun k hk => (eo k hk).trans (by rw [fr 51 (by decide) (by decide)]))
      · rw [lo 0 (by decide) (by decide) (by decide) (by decide)]; exact r1
      · rw [k42 33 (by decide)]; exact r2
      · rw [lo 36 (by decide) (by decide) (by decide) (by decide), lo 59 (by decide) (by decide) (by decide) (by decide)]; exact r4
      · exact s2.of (lo 61 (by decide) (by decide) (by decide) (by decide)) (lo 62 (by decide) (by decide) (by decide) (by decide))
      · rw [lo 39 (by decide) (by decide) (by decide) (by decide)]; exact s3.of (lo 64 (by decide) (by decide) (by decide) (by decide)) (lo 65 (by decide) (by decide) (by decide) (by decide)) (lo 66 (by decide) (by decide) (by decide) (by decide))
      · rw [lo 40 (by decide) (by decide) (by decide) (by decide)]; exact c1
      · rw [k42 45 (by decide)]; exact c2
      · rw [lo 67 (by decide) (by decide) (by decide) (by decide), lo 41 (by decide) (by decide) (by decide) (by decide)]; exact c4
  · refine ⟨-1, Zc_mono (d := 39) (c_feed (d := 38) t1 t3 e x) ?_⟩
    rintro v w ⟨h1, _⟩
    obtain ⟨rfl, rfl⟩ := h1 q
    refine ⟨rfl, n, ξ, ρ, rfl, Zc_mono (d := 39) (c_Mfeed (d := 38) t2 t3 e x) ?_⟩
    rintro v w ⟨h1, _⟩
    obtain ⟨rfl, rfl⟩ := h1 q
    exact ⟨rfl, n, ξ, ρ, rfl, zInv.cm hkp hkk t1 t2 t3 t4 r1 r2 r3 r4 s1 s2 s3 c1 c2 c3 c4 (fun _ _ => rfl) (zfm.rf _) hX hM hK⟩
theorem p_task (S : Nat × (Nat → Int32)) {n : Nat} {ξ : Nat → Nat → Int32} {ρ : zRho} (inv : zInv n ξ ρ) : zPr S jX5_task jX6_task [] n ξ ρ := by
  obtain ⟨K, Kk, sh, sl, L, R, N, hX, hM, hK, hkp, hkk, t1, t2, t3, t4, r1, r2, r3, r4, s1, s2, s3, c1, c2, c3, c4⟩ := inv
  have hm6 := hK.m6
  have hd3 := hK.d3
  have ht60 := hK.t60
  cases et : ztask (ξ 35) L (ξ 23 7) with
  | inl f =>
    refine ⟨-100 - nI f, Zc_mono (d := 39) (c_task (d := 30) hX hK t1 t3) ?_⟩
    rintro v w ⟨ξ1, rfl, e34, fr, e0, hl, hr⟩
    obtain ⟨rfl, x1, e06⟩ := hl f et
    have f42 : ∀ a, 42 ≤ a → ξ1 a = ξ a := fun a ha => fr a (by omega) (by omega) (by omega)
    refine ⟨rfl, n, ξ1, zρ1 ρ (.ref 23), rfl, Zc_mono (d := 39) (c_Mtask (d := 30) (hM.of hm6 f42) hK (tb := ξ 35) (tu := ξ 51) (L := L) (by rw [f42 42 (by decide)]; exact t2) (f42 51 (by decide)) t3 t4 (ξ 23 7)) ?_⟩
    rintro v w ⟨ξ2, wd2, rfl, e13, gl, gr, fb, e45, e47⟩
    obtain ⟨rfl, m2, e33⟩ := gl f et
    have lo : ∀ a, (12 ≤ a ∧ a < 23) ∨ (35 ≤ a ∧ a < 42) ∨ (51 ≤ a ∧ (a < 52 ∨ 61 ≤ a ∨ a = 59)) → ξ2 a = ξ a := fun a ha => (fb a (by omega) (by omega)).trans (fr a (by omega) (by omega) (by omega))
    have l0 : ξ2 0 = ξ1 0 := fb 0 (by omega) (by omega)
    refine ⟨rfl, n, ξ2, zρw (zρ1 ρ (.ref 23)) wd2, rfl, ⟨K, Kk, sh, sl, 0, R, N, x1.fr hm6 (fun a h1 h2 => fb a (by omega) (by omega)), m2, hK, ?_, ?_, ?_, e13, by decide, fun i hi => absurd hi (Nat.not_lt_zero _), ?_, ?_, r3, ?_, s1, ?_, ?_, ?_, ?_, c3, ?_⟩⟩
    · rw [e47, f42 42 (by decide), l0, e0 3 (by decide)]; exact hkp
    · rw [l0, e0 3 (by decide)]
      intro q
      obtain ⟨a1, a2, a3⟩ := hkk q
      exact ⟨a1.fr a3.m6 (fun a h1 h2 => lo a (by omega)), a2.of (lo 68 (by omega)), a3⟩
    · rw [fb 34 (by omega) (by omega)]; exact e34
    · rw [l0]; exact e06.trans r1
    · exact (e33.trans (by rw [f42 42 (by decide)])).trans r2
    · rw [lo 36 (by omega), lo 59 (by omega)]; exact r4
    · exact s2.of (lo 61 (by omega)) (lo 62 (by omega))
    · rw [lo 39 (by omega)]; exact s3.of (lo 64 (by omega)) (lo 65 (by omega)) (lo 66 (by omega))
    · rw [lo 40 (by omega)]; exact c1
    · rw [e45, f42 42 (by decide)]; exact c2
    · rw [lo 67 (by omega), lo 41 (by omega)]; exact c4
  | inr K2 =>
    have ok2 : zOK (K2.drop.sz K.z) := (ztask_k et).drop.sz K.z
    refine ⟨nI K2.M, Zc_mono (d := 39) (c_task (d := 30) hX hK t1 t3) ?_⟩
    rintro v w ⟨ξ1, rfl, e34, fr, e0, hl, hr⟩
    obtain ⟨rfl, x1, e06⟩ := hr K2 et
    have f42 : ∀ a, 42 ≤ a → ξ1 a = ξ a := fun a ha => fr a (by omega) (by omega) (by omega)
    refine ⟨rfl, n, ξ1, zρ1 ρ (.ref 23), rfl, Zc_mono (d := 39) (c_Mtask (d := 30) (hM.of hm6 f42) hK (tb := ξ 35) (tu := ξ 51) (L := L) (by rw [f42 42 (by decide)]; exact t2) (f42 51 (by decide)) t3 t4 (ξ 23 7)) ?_⟩
    rintro v w ⟨ξ2, wd2, rfl, e13, gl, gr, fb, e45, e47⟩
    obtain ⟨rfl, m2, e33⟩ := gr K2 et
    have lo : ∀ a, (12 ≤ a ∧ a < 23) ∨ (35 ≤ a ∧ a < 42) ∨ (51 ≤ a ∧ (a < 52 ∨ 61 ≤ a ∨ a = 59)) → ξ2 a = ξ a := fun a ha => (fb a (by omega) (by omega)).trans (fr a (by omega) (by omega) (by omega))
    have l0 : ξ2 0 = ξ1 0 := fb 0 (by omega) (by omega)
    refine ⟨rfl, n, ξ2, zρw (zρ1 ρ (.ref 23)) wd2, rfl, ⟨K2.drop.sz K.z, Kk, sh, sl, 0, 0, N, x1.fr ok2.m6 (fun a h1 h2 => fb a (by omega) (by omega)), m2, ok2, ?_, ?_, ?_, e13, by decide, fun i hi => absurd hi (Nat.not_lt_zero _), ?_, ?_, (by decide), ?_, s1, ?_, ?_, ?_, ?_, c3, ?_⟩⟩
    · rw [e47, f42 42 (by decide), l0, e0 3 (by decide)]; exact hkp
    · rw [l0, e0 3 (by decide)]
      intro q
      obtain ⟨a1, a2, a3⟩ := hkk q
      exact ⟨a1.fr a3.m6 (fun a h1 h2 => lo a (by omega)), a2.of (lo 68 (by omega)), a3⟩
    · rw [fb 34 (by omega) (by omega)]; exact e34
    · rw [l0]; exact e06
    · exact e33
    · intro k hk; exact absurd hk (by omega)
    · exact s2.of (lo 61 (by omega)) (lo 62 (by omega))
    · rw [lo 39 (by omega)]; exact s3.of (lo 64 (by omega)) (lo 65 (by omega)) (lo 66 (by omega))
    · rw [lo 40 (by omega)]; exact c1
    · rw [e45, f42 42 (by decide)]; exact c2
    · rw [lo 67 (by omega), lo 41 (by omega)]; exact c4
