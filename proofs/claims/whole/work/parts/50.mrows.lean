theorem zm3 (r : Nat) : (3 : Int32) * nI r = nI (r * 3) := by rw [Int32.mul_comm]; exact zn3 r
theorem zm31 (r : Nat) : (3 : Int32) * nI r + 1 = nI (r * 3 + 1) := by rw [zm3, nI_1]
theorem zm32 (r : Nat) : (3 : Int32) * nI r + 2 = nI (r * 3 + 2) := by rw [zm3]; exact nI_add _ 2
theorem zm3k (r k : Nat) : (3 : Int32) * nI r + nI k = nI (r * 3 + k) := by rw [zm3]; exact nI_add _ _
theorem zm3k2 (r k : Nat) : nI r * 3 + nI k = nI (r * 3 + k) := by rw [zn3]; exact nI_add _ _
abbrev zfr3 (ξ ξ1 : Nat → Nat → Int32) : Prop := (∀ a, a ≠ 42 → a ≠ 50 → a ≠ 60 → ξ1 a = ξ a) ∧ (∀ k, k ≠ 10 → k ≠ 29 → k ≠ 30 → k ≠ 34 → ξ1 42 k = ξ 42 k) ∧ ∀ k, k < 19 → ξ1 50 k = ξ 50 k
theorem zfr3.go {ξ ξ1 ξ2 : Nat → Nat → Int32} (f : zfr3 ξ ξ1) (g : zfgo ξ1 ξ2) : zfr3 ξ ξ2 :=
  ⟨fun a h1 h2 h3 => (g.1 a h1).trans (f.1 a h1 h2 h3), fun k h1 h2 h3 h4 => (g.2 k h2 h3).trans (f.2.1 k h1 h2 h3 h4), fun k hk => by rw [g.1 50 (by decide)]; exact f.2.2 k hk⟩
theorem zfr3.fg {ξ ξ1 ξ2 : Nat → Nat → Int32} (f : zfr3 ξ ξ1) (g : zfg 19 ξ1 ξ2) : zfr3 ξ ξ2 :=
  ⟨fun a h1 h2 h3 => (g.1 a h1 h2).trans (f.1 a h1 h2 h3), fun k h1 h2 h3 h4 => (g.2.1 k h2 h3).trans (f.2.1 k h1 h2 h3 h4), fun k hk => (g.2.2 k (Or.inl hk)).trans (f.2.2 k hk)⟩
theorem zfr3.u60 {ξ ξ1 : Nat → Nat → Int32} (f : zfr3 ξ ξ1) (k : Nat) (v : Int32) : zfr3 ξ (zu ξ1 60 k v) :=
  ⟨fun a h1 h2 h3 => by rw [zun h3]; exact f.1 a h1 h2 h3, fun j h1 h2 h3 h4 => by rw [zun (by decide)]; exact f.2.1 j h1 h2 h3 h4, fun j hj => by rw [zun (by decide)]; exact f.2.2 j hj⟩
theorem zfr3.u34 {ξ ξ1 : Nat → Nat → Int32} (f : zfr3 ξ ξ1) (v : Int32) : zfr3 ξ (zu ξ1 42 34 v) :=
  ⟨fun a h1 h2 h3 => by rw [zun h1]; exact f.1 a h1 h2 h3, fun j h1 h2 h3 h4 => by rw [zu_ne (Or.inr h4)]; exact f.2.1 j h1 h2 h3 h4, fun j hj => by rw [zun (by decide)]; exact f.2.2 j hj⟩
theorem zMR.u60 {ξ : Nat → Nat → Int32} {ao : Nat} {K : zCs} (h : zMR ξ ao K) (hM : K.M ≤ 6) (k : Nat) (v : Int32) : zMR (zu ξ 60 k v) ao K :=
  h.fr hM (fun b h1 h2 => zun (by omega)) (fun k _ => by rw [zun (by decide)]) (fun k _ _ => by rw [zun (by decide)])
theorem zMR.of3 {ξ ξ1 : Nat → Nat → Int32} {K : zCs} (h : zMR ξ 0 K) (hM : K.M ≤ 6) (f : zfr3 ξ ξ1) : zMR (zu ξ1 42 10 0) 0 K :=
  h.fr hM (fun b h1 h2 => by rw [zun (by omega)]; exact f.1 b (by omega) (by omega) (by omega)) (fun k hk => by
    by_cases q : k = 10
    · subst q
      rw [zu_same]
      exact h.ha.symm
    · rw [zu_ne (Or.inr q)]
      exact f.2.1 k q (by omega) (by omega) (by omega)) (fun k _ h2 => by rw [zun (by decide)]; exact f.2.2 k (by omega))
theorem zfr3.fm {ξ ξ1 : Nat → Nat → Int32} (f : zfr3 ξ ξ1) : zfm ξ (zu ξ1 42 10 0) :=
  ⟨fun a h1 h2 => by rw [zun (by omega)]; exact f.1 a (by omega) (by omega) h2, fun k hk => by rw [zu_ne (Or.inr (by omega))]; exact f.2.1 k (by omega) (by omega) (by omega) (by omega)⟩
theorem zgo_hrn (K : zCs) (i j : Nat) : (K.go (K.T + j)).hrn i = K.rowF i (j * 3 + 1) := by
  rw [zrowF_1]
  show (if (K.lv i (K.T + j - K.T) K.T).2.1 = -9 then zhrsF K.dd K.dp K.D (K.law 0) (K.law 1) (K.p i 0) (K.p i 1) (K.p i 2) (K.lv i (K.T + j - K.T) K.T).1 (K.p i 4) (nI (K.T + j)) else 0) = _
  rw [Nat.add_sub_cancel_left]
  rfl
theorem zgo_p3 (K : zCs) (i j : Nat) : (K.go (K.T + (j + 1))).p i 3 = K.rowF i (j * 3 + 2) := by
  rw [zrowF_2]
  show (K.lv i (K.T + (j + 1) - K.T) K.T).1 = _
  rw [Nat.add_sub_cancel_left]
def zjC (f g : Nat → Int32) (mm r k : Nat) : Prop := r < mm ∧ ∀ t, t < k → f (r * 3 + t) = g (r * 3 + t)
set_option maxRecDepth 20000 in
set_option maxHeartbeats 1000000 in
theorem c_MfindRows {S : Nat × (Nat → Int32)} {d n : Nat} {ξ : Nat → Nat → Int32} {ρ : zRho} {K : zCs} (h : zMR ξ 0 K) (hK : zOK K) {i m : Nat} (hi : i < K.M) (hm : m ≤ 20) : Zc S (d + 6) jX6_findRows [.ref 42, .int (nI i), .int (nI m)] (zWof n ξ ρ) (fun r w => r = none ∧ ∃ ξ2, w = zWof n ξ2 ρ ∧ ξ2 42 34 = nI (min m (60 - K.T)) ∧ (∀ k, k < 3 * min m (60 - K.T) → ξ2 60 k = K.rowF i k) ∧ zMR ξ2 0 K ∧ zfm ξ ξ2) := by
  have hd3 := hK.d3
  have hm6 := hK.m6
  have ht60 := hK.t60
  refine Zc_in (q := (6, 0, 0, 2, 3, 0, 0, zk_X6_findRows)) rfl (Nat.le_of_ble_eq_true rfl) (L := [_, _, _]) rfl ?_
  have key : ∀ (k : Nat) (j : Nat) (ξ1 : Nat → Nat → Int32), m - j = k → zMR ξ1 19 (K.go (K.T + j)) → zfr3 ξ ξ1 → ξ1 42 34 = nI j → (∀ k, k < 3 * j → ξ1 60 k = K.rowF i k) → j ≤ m → K.T + j ≤ 60 →  Zw S (Zc S (d + 5)) 6 false 0 zk_X6_findRows (fun r w => r = none ∧ ∃ ξ2, w = zWof n ξ2 ρ ∧ ξ2 42 34 = nI (min m (60 - K.T)) ∧ (∀ k, k < 3 * min m (60 - K.T) → ξ2 60 k = K.rowF i k) ∧ zMR ξ2 0 K ∧ zfm ξ ξ2) (9, [some (.ref 42), some (.int (nI i)), some (.int (nI m))], [], (0, 0), zWof n ξ1 ρ) := by
    intro k
    induction k using Nat.strongRecOn with
    | ind k ih =>
      intro j ξ1 hk m1 f1 e34 er hj hT
      refine zr_aload_n 10 rfl rfl rfl trivial ?_
      refine zr_getf 13 rfl rfl rfl rfl rfl ?_
      refine zr_iload_n 14 rfl rfl rfl ?_
      refine zr_icmp_ge 98 17 rfl rfl (by decide) (fun c14z => ?_) (fun c14z => ?_)
      · rw [e34, nI_leI (by omega) (by omega)] at c14z
        refine zr_aload_n 99 rfl rfl rfl trivial ?_
        refine zr_iconst 100 (x := 0) rfl rfl (by decide) ?_
        refine zr_putf 103 rfl rfl rfl rfl (Nat.le_of_ble_eq_true rfl) rfl trivial (fun h => by cases h) (zW_set (k := 10) rfl) ?_
        refine zr_ret rfl rfl ?_
        refine ⟨rfl, _, rfl, ?_, fun k hk => ?_, h.of3 hm6 f1, f1.fm⟩
        · rw [zu_ne (Or.inr (by decide)), e34, show min m (60 - K.T) = j by omega]
        · rw [zun (by decide)]
          exact er k (by omega)
      · rw [e34, nI_leI (by omega) (by omega)] at c14z
        have hK1 := hK.go (E := K.T + j) (by omega) hT
        refine zr_aload_n 18 rfl rfl rfl trivial ?_
        refine zr_iconst 19 (x := 0) rfl rfl (by decide) ?_
        refine zr_callv 22 (As := [_]) (u2 := (0, 0)) rfl rfl rfl rfl rfl rfl rfl (Nat.le_of_ble_eq_true rfl) (Nat.le_of_ble_eq_true rfl) (Nat.le_of_ble_eq_true rfl) rfl (c_MiT m1) rfl (fun v2 w2 h19z => ?_)
        obtain ⟨rfl, rfl⟩ := h19z
        refine zr_bipush 24 (x := 60) rfl rfl (by decide) ?_
        refine zr_icmp_ge 98 27 rfl rfl (by decide) (fun c24z => ?_) (fun c24z => ?_)
        · have c24 : 60 ≤ K.T + j := (nI_leI (a := 60) (by decide) (show K.T + j < 2 ^ 31 by omega)).mp c24z
          refine zr_aload_n 99 rfl rfl rfl trivial ?_
          refine zr_iconst 100 (x := 0) rfl rfl (by decide) ?_
          refine zr_putf 103 rfl rfl rfl rfl (Nat.le_of_ble_eq_true rfl) rfl trivial (fun h => by cases h) (zW_set (k := 10) rfl) ?_
          refine zr_ret rfl rfl ?_
          refine ⟨rfl, _, rfl, ?_, fun k hk => ?_, h.of3 hm6 f1, f1.fm⟩
          · rw [zu_ne (Or.inr (by decide)), e34, show min m (60 - K.T) = j by omega]
          · rw [zun (by decide)]
            exact er k (by omega)
        · have c24 : K.T + j < 60 := Nat.lt_of_not_le (fun q => c24z ((nI_leI (a := 60) (by decide) (show K.T + j < 2 ^ 31 by omega)).mpr q))
          refine zr_aload_n 28 rfl rfl rfl trivial ?_
          refine zr_getf 31 rfl rfl rfl rfl rfl ?_
          refine zr_iconst 32 (x := 3) rfl rfl (by decide) ?_
          refine zr_aload_n 33 rfl rfl rfl trivial ?_
          refine zr_getf 36 rfl rfl rfl rfl rfl ?_
          refine zr_imul 37 rfl rfl ?_
          rw [e34, zm3]
          refine zr_aload_n 38 rfl rfl rfl trivial ?_
          refine zr_iconst 39 (x := 0) rfl rfl (by decide) ?_
          refine zr_callv 42 (As := [_]) (u2 := (0, 0)) rfl rfl rfl rfl rfl rfl rfl (Nat.le_of_ble_eq_true rfl) (Nat.le_of_ble_eq_true rfl) (Nat.le_of_ble_eq_true rfl) rfl (c_MiT m1) rfl (fun v2 w2 h39z => ?_)
          obtain ⟨rfl, rfl⟩ := h39z
          refine zr_iast 43 rfl rfl rfl (nI_clamp (by omega)) (vp_in_nI (by omega) (by omega)) (zW_set rfl) ?_
          refine zr_aload_n 44 rfl rfl rfl trivial ?_
          refine zr_getf 47 rfl rfl rfl rfl rfl ?_
          refine zr_iconst 48 (x := 3) rfl rfl (by decide) ?_
          refine zr_aload_n 49 rfl rfl rfl trivial ?_
          refine zr_getf 52 rfl rfl rfl rfl rfl ?_
          refine zr_imul 53 rfl rfl ?_
          refine zr_iconst 54 (x := 1) rfl rfl (by decide) ?_
          refine zr_iadd 55 rfl rfl ?_
          rw [show zu ξ1 60 (j * 3) (nI (K.go (K.T + j)).T) 42 34 = nI j from e34, zm31]
          refine zr_aload_n 56 rfl rfl rfl trivial ?_
          refine zr_iload_n 57 rfl rfl rfl ?_
          have m2 := m1.u60 hm6 (j * 3) (nI (K.go (K.T + j)).T)
          have g2 := f1.u60 (j * 3) (nI (K.go (K.T + j)).T)
          refine zr_callv 60 (As := [_]) (u2 := (0, 0)) rfl rfl rfl rfl rfl rfl rfl (Nat.le_of_ble_eq_true rfl) (Nat.le_of_ble_eq_true rfl) (Nat.le_of_ble_eq_true rfl) rfl (c_Mhours m2 hK1 hi) rfl (fun v2 w2 h57z => ?_)
          obtain ⟨rfl, ξ3, rfl, f3, _⟩ := h57z
          have m4 := (f3.mr m2 hm6).u60 hm6 (j * 3 + 1) ((K.go (K.T + j)).hrn i)
          have g4 := (g2.go f3).u60 (j * 3 + 1) ((K.go (K.T + j)).hrn i)
          refine zr_iast 61 rfl rfl rfl (nI_clamp (by omega)) (vp_in_nI (by omega) (by omega)) (zW_set rfl) ?_
          refine zr_aload_n 62 rfl rfl rfl trivial ?_
          refine zr_callv 65 (As := []) (u2 := (0, 0)) rfl rfl rfl rfl rfl rfl rfl (Nat.le_of_ble_eq_true rfl) (Nat.le_of_ble_eq_true rfl) (Nat.le_of_ble_eq_true rfl) rfl (c_MdayGoes m4 hK1 (show K.T + j < 60 from c24)) rfl (fun v2 w2 h62z => ?_)
          obtain ⟨rfl, ξ5, rfl, m5, f5⟩ := h62z
          rw [show (K.go (K.T + j)).go ((K.go (K.T + j)).T + 1) = K.go (K.T + (j + 1)) from zgo_succ K (by omega)] at m5
          have e5 : ξ5 42 34 = nI j := by
            rw [f5.2.1 34 (by decide) (by decide), zun (by decide), f3.2 34 (by decide) (by decide), zun (by decide)]
            exact e34
          refine zr_aload_n 66 rfl rfl rfl trivial ?_
          refine zr_getf 69 rfl rfl rfl rfl rfl ?_
          refine zr_iconst 70 (x := 3) rfl rfl (by decide) ?_
          refine zr_aload_n 71 rfl rfl rfl trivial ?_
          refine zr_getf 74 rfl rfl rfl rfl rfl ?_
          refine zr_imul 75 rfl rfl ?_
          refine zr_iconst 76 (x := 2) rfl rfl (by decide) ?_
          refine zr_iadd 77 rfl rfl ?_
          rw [e5, zm32]
          refine zr_aload_n 78 rfl rfl rfl trivial ?_
          refine zr_iconst 79 (x := 1) rfl rfl (by decide) ?_
          refine zr_iload_n 80 rfl rfl rfl ?_
          refine zr_iadd 81 rfl rfl ?_
          refine zr_callv 84 (As := [_]) (u2 := (0, 0)) rfl rfl rfl rfl rfl rfl rfl (Nat.le_of_ble_eq_true rfl) (Nat.le_of_ble_eq_true rfl) (Nat.le_of_ble_eq_true rfl) rfl (c_Mi3 m5 hm6 hi) rfl (fun v2 w2 h81z => ?_)
          obtain ⟨rfl, rfl⟩ := h81z
          refine zr_iast 85 rfl rfl rfl (nI_clamp (by omega)) (vp_in_nI (by omega) (by omega)) (zW_set rfl) ?_
          refine zr_aload_n 86 rfl rfl rfl trivial ?_
          refine zr_dup 87 rfl rfl rfl ?_
          refine zr_getf 90 rfl rfl rfl rfl rfl ?_
          refine zr_iconst 91 (x := 1) rfl rfl (by decide) ?_
          refine zr_iadd 92 rfl rfl ?_
          refine zr_putf 95 rfl rfl rfl rfl (Nat.le_of_ble_eq_true rfl) rfl trivial (fun h => by cases h) (zW_set (k := 34) rfl) ?_
          refine zr_goto 9 rfl (by decide) ?_
          have g6 := (g4.fg f5).u60 (j * 3 + 2) ((K.go (K.T + (j + 1))).p i 3)
          have m6 := m5.u60 hm6 (j * 3 + 2) ((K.go (K.T + (j + 1))).p i 3)
          have e6 : zu ξ5 60 (j * 3 + 2) ((K.go (K.T + (j + 1))).p i 3) 42 34 + 1 = nI (j + 1) := by rw [zun (by decide), e5, nI_1]
          refine ih _ (by omega) (j + 1) _ rfl (m6.u42 hm6 34 _ (by decide)) (g6.u34 _) (by rw [zu_same]; exact e6) (fun k hk => ?_) (by omega) (by omega)
          rw [zun (by decide)]
          by_cases q2 : k = j * 3 + 2
          · subst q2
            rw [zu_same]
            exact zgo_p3 K i j
          rw [zu_ne (Or.inr q2), f5.1 60 (by decide) (by decide)]
          by_cases q1 : k = j * 3 + 1
          · subst q1
            rw [zu_same]
            exact zgo_hrn K i j
          rw [zu_ne (Or.inr q1), f3.1 60 (by decide)]
          by_cases q0 : k = j * 3
          · subst q0
            rw [zu_same]
            exact (zrowF_0 K i j).symm
          rw [zu_ne (Or.inr q0)]
          exact er k (by omega)
  refine zr_aload_n 1 rfl rfl rfl trivial ?_
  refine zr_callv 4 (As := []) (u2 := (0, 0)) rfl rfl rfl rfl rfl rfl rfl (Nat.le_of_ble_eq_true rfl) (Nat.le_of_ble_eq_true rfl) (Nat.le_of_ble_eq_true rfl) rfl (c_Mlends h hK) rfl (fun v2 w2 h1z => ?_)
  obtain ⟨rfl, ξ0, rfl, m0, fa, fb, fc⟩ := h1z
  refine zr_aload_n 5 rfl rfl rfl trivial ?_
  refine zr_iconst 6 (x := 0) rfl rfl (by decide) ?_
  refine zr_putf 9 rfl rfl rfl rfl (Nat.le_of_ble_eq_true rfl) rfl trivial (fun h => by cases h) (zW_set (k := 34) rfl) ?_
  refine key _ 0 _ rfl ?_ ?_ (zu_same _ _ _ _) (fun k hk => absurd hk (by omega)) (Nat.zero_le _) (by omega)
  · rw [show K.go (K.T + 0) = K from zgo_self K]
    exact m0.u42 hm6 34 _ (by decide)
  · exact ⟨fun a h1 h2 h3 => by rw [zun h1]; exact fa a h1 h2, fun k h1 h2 h3 h4 => by rw [zu_ne (Or.inr h4)]; exact fb k h1, fun k hk => by rw [zun (by decide)]; exact fc k hk⟩
set_option maxRecDepth 20000 in
set_option maxHeartbeats 1000000 in
theorem c_Mprove {S : Nat × (Nat → Int32)} {d n : Nat} {ξ : Nat → Nat → Int32} {ρ : zRho} {K : zCs} (h : zMR ξ 0 K) (hK : zOK K) (x m : Int32) : Zc S (d + 7) jX6_prove [.ref 42, .int x, .int m] (zWof n ξ ρ) (fun r w => (¬ ((0 ≤ x ∧ x < nI K.M) ∧ 1 ≤ m ∧ m ≤ 20) → r = some (.int (-1)) ∧ w = zWof n ξ ρ) ∧ (∀ i mm, x = nI i → i < K.M → m = nI mm → 1 ≤ mm → mm ≤ 20 → ∃ ξ2, w = zWof n ξ2 ρ ∧ r = some (.int (nI (min mm (60 - K.T)))) ∧ ξ2 42 33 = nI (min mm (60 - K.T)) ∧ (∀ k, k < 3 * min mm (60 - K.T) → ξ2 59 k = K.rowF i k) ∧ zMR ξ2 0 K ∧ (∀ a, (a < 42 ∨ 51 ≤ a) → a ≠ 59 → a ≠ 60 → ξ2 a = ξ a) ∧ ∀ k, (k = 13 ∨ k = 45 ∨ k = 47) → ξ2 42 k = ξ 42 k)) := by
  have hd3 := hK.d3
  have hm6 := hK.m6
  have ht60 := hK.t60
  refine Zc_in (q := (6, 0, 1, 2, 4, 0, 0, zk_X6_prove)) rfl (Nat.le_of_ble_eq_true rfl) (L := [_, _, _, _]) rfl ?_
  refine zr_aload_n 1 rfl rfl rfl trivial ?_
  refine zr_iload_n 2 rfl rfl rfl ?_
  refine zr_callv 5 (As := [_]) (u2 := (0, 0)) rfl rfl rfl rfl rfl rfl rfl (Nat.le_of_ble_eq_true rfl) (Nat.le_of_ble_eq_true rfl) (Nat.le_of_ble_eq_true rfl) rfl (c_MisPerson h hK _) rfl (fun v2 w2 h2z => ?_)
  obtain ⟨rfl, rfl⟩ := h2z
  refine zr_if_eq 18 8 rfl rfl (by decide) (fun c5z => ?_) (fun c5z => ?_)
  · replace c5z := zb_0.mp c5z
    refine zr_iconst 19 (x := (-1)) rfl rfl (by decide) ?_
    refine zr_iret rfl rfl ?_
    refine ⟨fun _ => ⟨rfl, rfl⟩, fun i mm q1 q2 q3 q4 q5 => ?_⟩
    subst q1
    subst q3
    exact absurd ⟨nI_pos' (by omega), nI_lt q2 (by omega)⟩ c5z
  · replace c5z := zb_n0.mp c5z
    refine zr_iload_n 9 rfl rfl rfl ?_
    refine zr_iconst 10 (x := 1) rfl rfl (by decide) ?_
    refine zr_bipush 12 (x := 20) rfl rfl (by decide) ?_
    refine zr_calls 15 (As := [_, _, _]) (u2 := (0, 0)) rfl rfl rfl rfl rfl rfl rfl (Nat.le_of_ble_eq_true rfl) (Nat.le_of_ble_eq_true rfl) (Nat.le_of_ble_eq_true rfl) (c_Min _ _ _) rfl (fun v2 w2 h12z => ?_)
    obtain ⟨rfl, rfl⟩ := h12z
    refine zr_if_ne 20 18 rfl rfl (by decide) (fun c15z => ?_) (fun c15z => ?_)
    · replace c15z := zb_n0.mp c15z
      obtain ⟨i0, hi, rfl⟩ := zperI rfl (by omega) c5z
      obtain ⟨m0, hm0, rfl⟩ := zbetI (k := 20) rfl (by decide) (Int32.le_trans (by decide) c15z.1) c15z.2
      have key : ∀ (k : Nat) (j : Nat) (ξ2 : Nat → Nat → Int32), 3 * min m0 (60 - K.T) - j = k → ξ2 42 33 = nI (min m0 (60 - K.T)) → (∀ k, k < 3 * min m0 (60 - K.T) → ξ2 60 k = K.rowF i0 k) → (∀ k, k < j → ξ2 59 k = K.rowF i0 k) → zMR ξ2 0 K → (∀ a, (a < 42 ∨ 51 ≤ a) → a ≠ 59 → a ≠ 60 → ξ2 a = ξ a) → (∀ k, (k = 13 ∨ k = 45 ∨ k = 47) → ξ2 42 k = ξ 42 k) → j ≤ 3 * min m0 (60 - K.T) →  Zw S (Zc S (d + 6)) 6 false 1 zk_X6_prove (fun r w => (¬ ((0 ≤ nI i0 ∧ nI i0 < nI K.M) ∧ 1 ≤ nI m0 ∧ nI m0 ≤ 20) → r = some (.int (-1)) ∧ w = zWof n ξ ρ) ∧ (∀ i mm, nI i0 = nI i → i < K.M → nI m0 = nI mm → 1 ≤ mm → mm ≤ 20 → ∃ ξ2, w = zWof n ξ2 ρ ∧ r = some (.int (nI (min mm (60 - K.T)))) ∧ ξ2 42 33 = nI (min mm (60 - K.T)) ∧ (∀ k, k < 3 * min mm (60 - K.T) → ξ2 59 k = K.rowF i k) ∧ zMR ξ2 0 K ∧ (∀ a, (a < 42 ∨ 51 ≤ a) → a ≠ 59 → a ≠ 60 → ξ2 a = ξ a) ∧ ∀ k, (k = 13 ∨ k = 45 ∨ k = 47) → ξ2 42 k = ξ 42 k)) (36, [some (.ref 42), some (.int (nI i0)), some (.int (nI m0)), some (.int (nI j))], [], (0, 0), zWof n ξ2 ρ) := by
        intro k
        induction k using Nat.strongRecOn with
        | ind k ih =>
          intro j ξ2 hk e33 e60 e59 m2 g1 g2 hj
          refine zr_iload_n 37 rfl rfl rfl ?_
          refine zr_iconst 38 (x := 3) rfl rfl (by decide) ?_
          refine zr_aload_n 39 rfl rfl rfl trivial ?_
          refine zr_getf 42 rfl rfl rfl rfl rfl ?_
          refine zr_imul 43 rfl rfl ?_
          rw [e33, zm3]
          refine zr_icmp_ge 64 46 rfl rfl (by decide) (fun c43z => ?_) (fun c43z => ?_)
          · rw [nI_leI (by omega) (by omega)] at c43z
            refine zr_aload_n 65 rfl rfl rfl trivial ?_
            refine zr_getf 68 rfl rfl rfl rfl rfl ?_
            refine zr_iret rfl rfl ?_
            refine ⟨fun q => absurd ⟨c5z, c15z⟩ q, fun i mm q1 q2 q3 q4 q5 => ?_⟩
            obtain rfl := (nI_eq (by omega) (by omega)).mp q1
            obtain rfl := (nI_eq (by omega) (by omega)).mp q3
            exact ⟨ξ2, rfl, by rw [e33], e33, fun k hk => e59 k (by omega), m2, g1, g2⟩
          · rw [nI_leI (by omega) (by omega)] at c43z
            refine zr_aload_n 47 rfl rfl rfl trivial ?_
            refine zr_getf 50 rfl rfl rfl rfl rfl ?_
            refine zr_iload_n 51 rfl rfl rfl ?_
            refine zr_aload_n 52 rfl rfl rfl trivial ?_
            refine zr_getf 55 rfl rfl rfl rfl rfl ?_
            refine zr_iload_n 56 rfl rfl rfl ?_
            refine zr_iald 57 rfl rfl rfl (nI_clamp (by omega)) (vp_in_nI (by omega) (by omega)) ?_
            refine zr_iast 58 rfl rfl rfl (nI_clamp (by omega)) (vp_in_nI (by omega) (by omega)) (zW_set rfl) ?_
            refine zr_iinc 61 (c0 := 1) (L2 := [_, _, _, _]) rfl rfl rfl (by first | exact trivial | exact rfl) (by decide) rfl ?_
            refine zr_goto 36 rfl (by decide) ?_
            rw [nI_1]
            refine ih _ (by omega) (j + 1) _ rfl (by rw [zun (by decide)]; exact e33) (fun k hk => by rw [zun (by decide)]; exact e60 k hk) (fun k hk => ?_) (m2.fr hm6 (fun b q1 q2 => zun (by omega)) (fun k _ => by rw [zun (by decide)]) (fun k _ _ => by rw [zun (by decide)])) (fun a q1 q2 q3 => by rw [zun q2]; exact g1 a q1 q2 q3) (fun k hk => by rw [zun (by decide)]; exact g2 k hk) (by omega)
            by_cases q : k = j
            · subst q
              rw [zu_same]
              exact e60 k (by omega)
            · rw [zu_ne (Or.inr q)]
              exact e59 k (by omega)
      refine zr_aload_n 21 rfl rfl rfl trivial ?_
      refine zr_iload_n 22 rfl rfl rfl ?_
      refine zr_iload_n 23 rfl rfl rfl ?_
      refine zr_callv 26 (As := [_, _]) (u2 := (0, 0)) rfl rfl rfl rfl rfl rfl rfl (Nat.le_of_ble_eq_true rfl) (Nat.le_of_ble_eq_true rfl) (Nat.le_of_ble_eq_true rfl) rfl (c_MfindRows h hK hi hm0) rfl (fun v2 w2 h23z => ?_)
      obtain ⟨rfl, ξ1, rfl, e34, e60, m1, f1⟩ := h23z
      refine zr_aload_n 27 rfl rfl rfl trivial ?_
      refine zr_aload_n 28 rfl rfl rfl trivial ?_
      refine zr_getf 31 rfl rfl rfl rfl rfl ?_
      refine zr_putf 34 rfl rfl rfl rfl (Nat.le_of_ble_eq_true rfl) rfl trivial (fun h => by cases h) (zW_set (k := 33) rfl) ?_
      refine zr_iconst 35 (x := 0) rfl rfl (by decide) ?_
      refine zr_istore_n 36 (L2 := [_, _, _, _]) rfl rfl (Nat.le_of_ble_eq_true rfl) (by first | exact trivial | exact rfl) rfl ?_
      exact key _ 0 _ rfl (by rw [zu_same]; exact e34) (fun k hk => by rw [zun (by decide)]; exact e60 k hk) (fun k hk => absurd hk (Nat.not_lt_zero _)) (m1.u42 hm6 33 _ (by decide)) (fun a q1 q2 q3 => by rw [zun (by omega)]; exact f1.1 a q1 q3) (fun k hk => by rw [zu_ne (Or.inr (by omega))]; exact f1.2 k (by omega)) (Nat.zero_le _)
    · replace c15z := zb_0.mp c15z
      refine zr_iconst 19 (x := (-1)) rfl rfl (by decide) ?_
      refine zr_iret rfl rfl ?_
      refine ⟨fun _ => ⟨rfl, rfl⟩, fun i mm q1 q2 q3 q4 q5 => ?_⟩
      subst q1
      subst q3
      exact absurd ⟨(nI_leI (a := 1) (by decide) (by omega)).mpr q4, (nI_leI (b := 20) (by omega) (by decide)).mpr q5⟩ c15z
set_option maxRecDepth 20000 in
set_option maxHeartbeats 1000000 in
theorem c_MisRow {S : Nat × (Nat → Int32)} {d n : Nat} {ξ : Nat → Nat → Int32} {ρ : zRho} {R : Nat} (hR : ξ 42 33 = nI R) (h20 : R ≤ 20) (i what : Int32) : Zc S (d + 2) jX6_isRow [.ref 42, .int i, .int what] (zWof n ξ ρ) (fun r w => r = some (.int (zb (0 ≤ i ∧ i < nI R ∧ 0 ≤ what ∧ what < 3))) ∧ w = zWof n ξ ρ) := by
  refine Zc_in (q := (6, 0, 3, 2, 3, 0, 0, zk_X6_isRow)) rfl (Nat.le_of_ble_eq_true rfl) (L := [_, _, _]) rfl ?_
  refine zr_iload_n 1 rfl rfl rfl ?_
  refine zr_iconst 2 (x := 0) rfl rfl (by decide) ?_
  refine zr_aload_n 3 rfl rfl rfl trivial ?_
  refine zr_getf 6 rfl rfl rfl rfl rfl ?_
  refine zr_iconst 7 (x := 1) rfl rfl (by decide) ?_
  refine zr_isub 8 rfl rfl ?_
  refine zr_calls 11 (As := [_, _, _]) (u2 := (0, 0)) rfl rfl rfl rfl rfl rfl rfl (Nat.le_of_ble_eq_true rfl) (Nat.le_of_ble_eq_true rfl) (Nat.le_of_ble_eq_true rfl) (c_Min _ _ _) rfl (fun v2 w2 h8z => ?_)
  obtain ⟨rfl, rfl⟩ := h8z
  refine zr_if_eq 27 14 rfl rfl (by decide) (fun c11z => ?_) (fun c11z => ?_)
  · replace c11z := zb_0.mp c11z
    rw [hR, zle1 (by omega)] at c11z
    refine zr_iconst 28 (x := 0) rfl rfl (by decide) ?_
    refine zr_zret rfl rfl (Or.inl rfl) ?_
    refine ⟨?_, rfl⟩
    rw [zb_f (fun q => c11z ⟨q.1, q.2.1⟩)]
  · replace c11z := zb_n0.mp c11z
    rw [hR, zle1 (by omega)] at c11z
    refine zr_iload_n 15 rfl rfl rfl ?_
    refine zr_iconst 16 (x := 0) rfl rfl (by decide) ?_
    refine zr_iconst 17 (x := 2) rfl rfl (by decide) ?_
    refine zr_calls 20 (As := [_, _, _]) (u2 := (0, 0)) rfl rfl rfl rfl rfl rfl rfl (Nat.le_of_ble_eq_true rfl) (Nat.le_of_ble_eq_true rfl) (Nat.le_of_ble_eq_true rfl) (c_Min _ _ _) rfl (fun v2 w2 h17z => ?_)
    obtain ⟨rfl, rfl⟩ := h17z
    refine zr_if_eq 27 23 rfl rfl (by decide) (fun c20z => ?_) (fun c20z => ?_)
    · replace c20z := zb_0.mp c20z
      rw [show (0 ≤ what ∧ what ≤ 2) ↔ (0 ≤ what ∧ what < 3) from zle1 (M := 3) (by decide)] at c20z
      refine zr_iconst 28 (x := 0) rfl rfl (by decide) ?_
      refine zr_zret rfl rfl (Or.inl rfl) ?_
      refine ⟨?_, rfl⟩
      rw [zb_f (fun q => c20z q.2.2)]
    · replace c20z := zb_n0.mp c20z
      rw [show (0 ≤ what ∧ what ≤ 2) ↔ (0 ≤ what ∧ what < 3) from zle1 (M := 3) (by decide)] at c20z
      refine zr_iconst 24 (x := 1) rfl rfl (by decide) ?_
      refine zr_goto 28 rfl (by decide) ?_
      refine zr_zret rfl rfl (Or.inr rfl) ?_
      refine ⟨?_, rfl⟩
      rw [zb_t ⟨c11z.1, c11z.2, c20z⟩]
set_option maxRecDepth 20000 in
set_option maxHeartbeats 1000000 in
theorem c_Mrow {S : Nat × (Nat → Int32)} {d n : Nat} {ξ : Nat → Nat → Int32} {ρ : zRho} {R : Nat} (hR : ξ 42 33 = nI R) (h20 : R ≤ 20) (i what : Int32) : Zc S (d + 3) jX6_row [.ref 42, .int i, .int what] (zWof n ξ ρ) (fun r w => r = some (.int (if 0 ≤ i ∧ i < nI R ∧ 0 ≤ what ∧ what < 3 then ξ 59 (i * 3 + what).toNatClampNeg else -9)) ∧ w = zWof n ξ ρ) := by
  refine Zc_in (q := (6, 0, 1, 2, 3, 0, 0, zk_X6_row)) rfl (Nat.le_of_ble_eq_true rfl) (L := [_, _, _]) rfl ?_
  refine zr_aload_n 1 rfl rfl rfl trivial ?_
  refine zr_iload_n 2 rfl rfl rfl ?_
  refine zr_iload_n 3 rfl rfl rfl ?_
  refine zr_callv 6 (As := [_, _]) (u2 := (0, 0)) rfl rfl rfl rfl rfl rfl rfl (Nat.le_of_ble_eq_true rfl) (Nat.le_of_ble_eq_true rfl) (Nat.le_of_ble_eq_true rfl) rfl (c_MisRow hR h20 _ _) rfl (fun v2 w2 h3z => ?_)
  obtain ⟨rfl, rfl⟩ := h3z
  refine zr_if_eq 22 9 rfl rfl (by decide) (fun c6z => ?_) (fun c6z => ?_)
  · replace c6z := zb_0.mp c6z
    refine zr_bipush 24 (x := (-9)) rfl rfl (by decide) ?_
    refine zr_iret rfl rfl ?_
    refine ⟨?_, rfl⟩
    rw [if_neg c6z]
  · replace c6z := zb_n0.mp c6z
    obtain ⟨a, ha, rfl⟩ := zperI (M := R) rfl (by omega) ⟨c6z.1, c6z.2.1⟩
    obtain ⟨b, hb, rfl⟩ := zperI (m := 3) (M := 3) rfl (by decide) c6z.2.2
    refine zr_aload_n 10 rfl rfl rfl trivial ?_
    refine zr_getf 13 rfl rfl rfl rfl rfl ?_
    refine zr_iconst 14 (x := 3) rfl rfl (by decide) ?_
    refine zr_iload_n 15 rfl rfl rfl ?_
    refine zr_imul 16 rfl rfl ?_
    refine zr_iload_n 17 rfl rfl rfl ?_
    refine zr_iadd 18 rfl rfl ?_
    rw [zm3k]
    refine zr_iald 19 rfl rfl rfl (nI_clamp (by omega)) (vp_in_nI (by omega) (by omega)) ?_
    refine zr_goto 24 rfl (by decide) ?_
    refine zr_iret rfl rfl ?_
    refine ⟨?_, rfl⟩
    rw [if_pos c6z, zm3k2, nI_clamp (by omega)]
set_option maxRecDepth 20000 in
set_option maxHeartbeats 1000000 in
theorem c_MalterRow {S : Nat × (Nat → Int32)} {d n : Nat} {ξ : Nat → Nat → Int32} {ρ : zRho} {R : Nat} (hR : ξ 42 33 = nI R) (h20 : R ≤ 20) (i what v : Int32) : Zc S (d + 3) jX6_alterRow [.ref 42, .int i, .int what, .int v] (zWof n ξ ρ) (fun r w => (¬ (0 ≤ i ∧ i < nI R ∧ 0 ≤ what ∧ what < 3) → r = some (.int (-9)) ∧ w = zWof n ξ ρ) ∧ (0 ≤ i ∧ i < nI R ∧ 0 ≤ what ∧ what < 3 → r = some (.int (ξ 59 (i * 3 + what).toNatClampNeg)) ∧ w = zWof n (zu ξ 59 (i * 3 + what).toNatClampNeg v) ρ)) := by
  refine Zc_in (q := (6, 0, 1, 3, 5, 0, 0, zk_X6_alterRow)) rfl (Nat.le_of_ble_eq_true rfl) (L := [_, _, _, _, _]) rfl ?_
  refine zr_aload_n 1 rfl rfl rfl trivial ?_
  refine zr_iload_n 2 rfl rfl rfl ?_
  refine zr_iload_n 3 rfl rfl rfl ?_
  refine zr_callv 6 (As := [_, _]) (u2 := (0, 0)) rfl rfl rfl rfl rfl rfl rfl (Nat.le_of_ble_eq_true rfl) (Nat.le_of_ble_eq_true rfl) (Nat.le_of_ble_eq_true rfl) rfl (c_MisRow hR h20 _ _) rfl (fun v2 w2 h3z => ?_)
  obtain ⟨rfl, rfl⟩ := h3z
  refine zr_if_ne 12 9 rfl rfl (by decide) (fun c6z => ?_) (fun c6z => ?_)
  · replace c6z := zb_n0.mp c6z
    obtain ⟨a, ha, rfl⟩ := zperI (M := R) rfl (by omega) ⟨c6z.1, c6z.2.1⟩
    obtain ⟨b, hb, rfl⟩ := zperI (m := 3) (M := 3) rfl (by decide) c6z.2.2
    refine zr_aload_n 13 rfl rfl rfl trivial ?_
    refine zr_getf 16 rfl rfl rfl rfl rfl ?_
    refine zr_iconst 17 (x := 3) rfl rfl (by decide) ?_
    refine zr_iload_n 18 rfl rfl rfl ?_
    refine zr_imul 19 rfl rfl ?_
    refine zr_iload_n 20 rfl rfl rfl ?_
    refine zr_iadd 21 rfl rfl ?_
    rw [zm3k]
    refine zr_iald 22 rfl rfl rfl (nI_clamp (by omega)) (vp_in_nI (by omega) (by omega)) ?_
    refine zr_istore 24 (L2 := [_, _, _, _, _]) rfl rfl (Nat.le_of_ble_eq_true rfl) (by first | exact trivial | exact rfl) rfl ?_
    refine zr_aload_n 25 rfl rfl rfl trivial ?_
    refine zr_getf 28 rfl rfl rfl rfl rfl ?_
    refine zr_iconst 29 (x := 3) rfl rfl (by decide) ?_
    refine zr_iload_n 30 rfl rfl rfl ?_
    refine zr_imul 31 rfl rfl ?_
    refine zr_iload_n 32 rfl rfl rfl ?_
    refine zr_iadd 33 rfl rfl ?_
    rw [zm3k]
    refine zr_iload_n 34 rfl rfl rfl ?_
    refine zr_iast 35 rfl rfl rfl (nI_clamp (by omega)) (vp_in_nI (by omega) (by omega)) (zW_set rfl) ?_
    refine zr_iload 37 rfl rfl rfl ?_
    refine zr_iret rfl rfl ?_
    refine ⟨fun q => absurd c6z q, fun _ => ?_⟩
    rw [zm3k2, nI_clamp (by omega)]
    exact ⟨rfl, rfl⟩
  · replace c6z := zb_0.mp c6z
    refine zr_bipush 11 (x := (-9)) rfl rfl (by decide) ?_
    refine zr_iret rfl rfl ?_
    exact ⟨fun _ => ⟨rfl, rfl⟩, fun q => absurd q c6z⟩
set_option maxRecDepth 20000 in
set_option maxHeartbeats 1000000 in
theorem c_Mjudge {S : Nat × (Nat → Int32)} {d n : Nat} {ξ : Nat → Nat → Int32} {ρ : zRho} {K : zCs} (h : zMR ξ 0 K) (hK : zOK K) {R : Nat} (hR : ξ 42 33 = nI R) (h20 : R ≤ 20) (x : Int32) : Zc S (d + 7) jX6_judge [.ref 42, .int x] (zWof n ξ ρ) (fun r w => ∃ ξ2, w = zWof n ξ2 ρ ∧ r = some (.int (zper K x (fun i => zjdgF K i (ξ 59) R 0))) ∧ zMR ξ2 0 K ∧ zfm ξ ξ2) := by
  have hd3 := hK.d3
  have hm6 := hK.m6
  have ht60 := hK.t60
  refine Zc_in (q := (6, 0, 1, 1, 5, 0, 0, zk_X6_judge)) rfl (Nat.le_of_ble_eq_true rfl) (L := [_, _, _, _, _]) rfl ?_
  refine zr_aload_n 1 rfl rfl rfl trivial ?_
  refine zr_iload_n 2 rfl rfl rfl ?_
  refine zr_callv 5 (As := [_]) (u2 := (0, 0)) rfl rfl rfl rfl rfl rfl rfl (Nat.le_of_ble_eq_true rfl) (Nat.le_of_ble_eq_true rfl) (Nat.le_of_ble_eq_true rfl) rfl (c_MisPerson h hK _) rfl (fun v2 w2 h2z => ?_)
  obtain ⟨rfl, rfl⟩ := h2z
  refine zr_if_ne 10 8 rfl rfl (by decide) (fun c5z => ?_) (fun c5z => ?_)
  · replace c5z := zb_n0.mp c5z
    obtain ⟨i, hi, rfl⟩ := zperI rfl (by omega) c5z
    refine zr_aload_n 11 rfl rfl rfl trivial ?_
    refine zr_iload_n 12 rfl rfl rfl ?_
    refine zr_aload_n 13 rfl rfl rfl trivial ?_
    refine zr_getf 16 rfl rfl rfl rfl rfl ?_
    rw [hR]
    refine zr_callv 19 (As := [_, _]) (u2 := (0, 0)) rfl rfl rfl rfl rfl rfl rfl (Nat.le_of_ble_eq_true rfl) (Nat.le_of_ble_eq_true rfl) (Nat.le_of_ble_eq_true rfl) rfl (c_MfindRows h hK hi h20) rfl (fun v2 w2 h16z => ?_)
    obtain ⟨rfl, ξ1, rfl, e34, e60, m1, f1⟩ := h16z
    have e59 : ξ1 59 = ξ 59 := f1.1 59 (by omega) (by decide)
    have e33 : ξ1 42 33 = nI R := (f1.2 33 (by omega)).trans hR
    have key : ∀ (k : Nat) (r2 : Nat), R - r2 = k → r2 ≤ R → zper K (nI i) (fun i => zjdgF K i (ξ 59) R 0) = zjdgF K i (ξ 59) (R - r2) r2 →  Zw S (Zc S (d + 6)) 6 false 1 zk_X6_judge (fun r w => ∃ ξ2, w = zWof n ξ2 ρ ∧ r = some (.int (zper K (nI i) (fun i => zjdgF K i (ξ 59) R 0))) ∧ zMR ξ2 0 K ∧ zfm ξ ξ2) (21, [some (.ref 42), some (.int (nI i)), some (.int (nI r2)), none, none], [], (0, 0), zWof n ξ1 ρ) := by
      intro k
      induction k using Nat.strongRecOn with
      | ind k ih =>
        intro r2 hk hr ee
        refine zr_iload_n 22 rfl rfl rfl ?_
        refine zr_aload_n 23 rfl rfl rfl trivial ?_
        refine zr_getf 26 rfl rfl rfl rfl rfl ?_
        refine zr_icmp_ge 107 29 rfl rfl (by decide) (fun c26z => ?_) (fun c26z => ?_)
        · rw [e33, nI_leI (by omega) (by omega)] at c26z
          refine zr_iconst 108 (x := 0) rfl rfl (by decide) ?_
          refine zr_iret rfl rfl ?_
          refine ⟨ξ1, rfl, ?_, m1, f1⟩
          rw [ee, show R - r2 = 0 by omega, zjdgF]
        · rw [e33, nI_leI (by omega) (by omega)] at c26z
          rw [show R - r2 = R - (r2 + 1) + 1 by omega, zjdgF] at ee
          have key2 : ∀ (k2 : Nat) (k : Nat) (q : Int32), 3 - k = k2 → k ≤ 3 → ((q = 1 ∧ zjC (ξ 59) (K.rowF i) (min R (60 - K.T)) r2 k) ∨ (q = 0 ∧ ¬ zjC (ξ 59) (K.rowF i) (min R (60 - K.T)) r2 k)) →  Zw S (Zc S (d + 6)) 6 false 1 zk_X6_judge (fun r w => ∃ ξ2, w = zWof n ξ2 ρ ∧ r = some (.int (zper K (nI i) (fun i => zjdgF K i (ξ 59) R 0))) ∧ zMR ξ2 0 K ∧ zfm ξ ξ2) (46, [some (.ref 42), some (.int (nI i)), some (.int (nI r2)), some (.int q), some (.int (nI k))], [], (0, 0), zWof n ξ1 ρ) := by
            intro k2
            induction k2 using Nat.strongRecOn with
            | ind k2 ih2 =>
              intro k q hk hk3 hq
              refine zr_iload 48 rfl rfl rfl ?_
              refine zr_iconst 49 (x := 3) rfl rfl (by decide) ?_
              refine zr_icmp_ge 93 52 rfl rfl (by decide) (fun c49z => ?_) (fun c49z => ?_)
              · rw [show (3 : Int32) = nI 3 from rfl, nI_leI (by omega) (by omega)] at c49z
                have k3 : k = 3 := by omega
                subst k3
                refine zr_iload_n 94 rfl rfl rfl ?_
                refine zr_if_ne 101 97 rfl rfl (by decide) (fun c94z => ?_) (fun c94z => ?_)
                · have yC3 : zjC (ξ 59) (K.rowF i) (min R (60 - K.T)) r2 3 := by
                    rcases hq with ⟨_, z⟩ | ⟨z, _⟩
                    · exact z
                    · exact absurd z c94z
                  refine zr_iinc 104 (c0 := 1) (L2 := [_, _, _, _, _]) rfl rfl rfl (by first | exact trivial | exact rfl) (by decide) rfl ?_
                  refine zr_goto 21 rfl (by decide) ?_
                  rw [nI_1]
                  refine zs_forget (L' := [_, _, _, none, none]) (zsub_s (zsub_s (zsub_s (zsub_n (zsub_n zsub_0))))) ?_
                  exact ih _ (by omega) (r2 + 1) rfl (by omega) (by rw [ee, if_neg (fun z => z.elim (fun y => by have := yC3.1; omega) (fun y => y ⟨yC3.2 0 (by decide), yC3.2 1 (by decide), yC3.2 2 (by decide)⟩))])
                · have nC3 : ¬ zjC (ξ 59) (K.rowF i) (min R (60 - K.T)) r2 3 := by
                    rcases hq with ⟨z, _⟩ | ⟨_, z⟩
                    · exact absurd (z.symm.trans c94z) (by decide)
                    · exact z
                  refine zr_iload_n 98 rfl rfl rfl ?_
                  refine zr_iconst 99 (x := 1) rfl rfl (by decide) ?_
                  refine zr_iadd 100 rfl rfl ?_
                  refine zr_iret rfl rfl ?_
                  refine ⟨ξ1, rfl, ?_, m1, f1⟩
                  rw [ee, if_pos, nI_1]
                  by_cases y : 60 ≤ K.T + r2
                  · exact Or.inl y
                  · refine Or.inr (fun e => nC3 ⟨by omega, fun t ht => ?_⟩)
                    rcases (by omega : t = 0 ∨ t = 1 ∨ t = 2) with rfl | rfl | rfl
                    · exact e.1
                    · exact e.2.1
                    · exact e.2.2
              · rw [show (3 : Int32) = nI 3 from rfl, nI_leI (by omega) (by omega)] at c49z
                refine zr_iload_n 53 rfl rfl rfl ?_
                refine zr_if_eq 93 56 rfl rfl (by decide) (fun c53z => ?_) (fun c53z => ?_)
                · have nC : ¬ zjC (ξ 59) (K.rowF i) (min R (60 - K.T)) r2 k := by
                    rcases hq with ⟨z, _⟩ | ⟨_, z⟩
                    · exact absurd (z.symm.trans c53z) (by decide)
                    · exact z
                  refine zr_iload_n 94 rfl rfl rfl ?_
                  refine zr_if_ne 101 97 rfl rfl (by decide) (fun c94z => ?_) (fun c94z => ?_)
                  · have yC3 : zjC (ξ 59) (K.rowF i) (min R (60 - K.T)) r2 3 := absurd c53z c94z
                    refine zr_iinc 104 (c0 := 1) (L2 := [_, _, _, _, _]) rfl rfl rfl (by first | exact trivial | exact rfl) (by decide) rfl ?_
                    refine zr_goto 21 rfl (by decide) ?_
                    rw [nI_1]
                    refine zs_forget (L' := [_, _, _, none, none]) (zsub_s (zsub_s (zsub_s (zsub_n (zsub_n zsub_0))))) ?_
                    exact ih _ (by omega) (r2 + 1) rfl (by omega) (by rw [ee, if_neg (fun z => z.elim (fun y => by have := yC3.1; omega) (fun y => y ⟨yC3.2 0 (by decide), yC3.2 1 (by decide), yC3.2 2 (by decide)⟩))])
                  · have nC3 : ¬ zjC (ξ 59) (K.rowF i) (min R (60 - K.T)) r2 3 := fun z => nC ⟨z.1, fun t ht => z.2 t (by omega)⟩
                    refine zr_iload_n 98 rfl rfl rfl ?_
                    refine zr_iconst 99 (x := 1) rfl rfl (by decide) ?_
                    refine zr_iadd 100 rfl rfl ?_
                    refine zr_iret rfl rfl ?_
                    refine ⟨ξ1, rfl, ?_, m1, f1⟩
                    rw [ee, if_pos, nI_1]
                    by_cases y : 60 ≤ K.T + r2
                    · exact Or.inl y
                    · refine Or.inr (fun e => nC3 ⟨by omega, fun t ht => ?_⟩)
                      rcases (by omega : t = 0 ∨ t = 1 ∨ t = 2) with rfl | rfl | rfl
                      · exact e.1
                      · exact e.2.1
                      · exact e.2.2
                · have yC : zjC (ξ 59) (K.rowF i) (min R (60 - K.T)) r2 k := by
                    rcases hq with ⟨_, z⟩ | ⟨z, _⟩
                    · exact z
                    · exact absurd z c53z
                  have hr0 : r2 < min R (60 - K.T) := yC.1
                  refine zr_aload_n 57 rfl rfl rfl trivial ?_
                  refine zr_getf 60 rfl rfl rfl rfl rfl ?_
                  refine zr_iconst 61 (x := 3) rfl rfl (by decide) ?_
                  refine zr_iload_n 62 rfl rfl rfl ?_
                  refine zr_imul 63 rfl rfl ?_
                  refine zr_iload 65 rfl rfl rfl ?_
                  refine zr_iadd 66 rfl rfl ?_
                  rw [zm3k]
                  refine zr_iald 67 rfl rfl rfl (nI_clamp (by omega)) (vp_in_nI (by omega) (by omega)) ?_
                  refine zr_aload_n 68 rfl rfl rfl trivial ?_
                  refine zr_getf 71 rfl rfl rfl rfl rfl ?_
                  refine zr_iconst 72 (x := 3) rfl rfl (by decide) ?_
                  refine zr_iload_n 73 rfl rfl rfl ?_
                  refine zr_imul 74 rfl rfl ?_
                  refine zr_iload 76 rfl rfl rfl ?_
                  refine zr_iadd 77 rfl rfl ?_
                  rw [zm3k]
                  refine zr_iald 78 rfl rfl rfl (nI_clamp (by omega)) (vp_in_nI (by omega) (by omega)) ?_
                  refine zr_icmp_ne 85 81 rfl rfl (by decide) (fun c78z => ?_) (fun c78z => ?_)
                  · refine zr_iconst 86 (x := 0) rfl rfl (by decide) ?_
                    refine zr_istore_n 87 (L2 := [_, _, _, _, _]) rfl rfl (Nat.le_of_ble_eq_true rfl) (by first | exact trivial | exact rfl) rfl ?_
                    refine zr_iinc 90 (c0 := 1) (L2 := [_, _, _, _, _]) rfl rfl rfl (by first | exact trivial | exact rfl) (by decide) rfl ?_
                    refine zr_goto 46 rfl (by decide) ?_
                    rw [nI_1]
                    refine ih2 _ (by omega) (k + 1) 0 rfl (by omega) (Or.inr ⟨rfl, fun z => ?_⟩)
                    exact c78z (by rw [e59, e60 _ (by omega)]; exact z.2 k (by omega))
                  · refine zr_iconst 82 (x := 1) rfl rfl (by decide) ?_
                    refine zr_goto 86 rfl (by decide) ?_
                    refine zr_istore_n 87 (L2 := [_, _, _, _, _]) rfl rfl (Nat.le_of_ble_eq_true rfl) (by first | exact trivial | exact rfl) rfl ?_
                    refine zr_iinc 90 (c0 := 1) (L2 := [_, _, _, _, _]) rfl rfl rfl (by first | exact trivial | exact rfl) (by decide) rfl ?_
                    refine zr_goto 46 rfl (by decide) ?_
                    rw [nI_1]
                    refine ih2 _ (by omega) (k + 1) 1 rfl (by omega) (Or.inl ⟨rfl, hr0, fun t ht => ?_⟩)
                    by_cases z : t = k
                    · subst z
                      rw [e59, e60 _ (by omega)] at c78z
                      exact c78z
                    · exact yC.2 t (by omega)
          refine zr_iload_n 30 rfl rfl rfl ?_
          refine zr_aload_n 31 rfl rfl rfl trivial ?_
          refine zr_getf 34 rfl rfl rfl rfl rfl ?_
          refine zr_icmp_ge 41 37 rfl rfl (by decide) (fun c34z => ?_) (fun c34z => ?_)
          · rw [e34, nI_leI (by omega) (by omega)] at c34z
            refine zr_iconst 42 (x := 0) rfl rfl (by decide) ?_
            refine zr_istore_n 43 (L2 := [_, _, _, _, _]) rfl rfl (Nat.le_of_ble_eq_true rfl) (by first | exact trivial | exact rfl) rfl ?_
            refine zr_iconst 44 (x := 0) rfl rfl (by decide) ?_
            refine zr_istore 46 (L2 := [_, _, _, _, _]) rfl rfl (Nat.le_of_ble_eq_true rfl) (by first | exact trivial | exact rfl) rfl ?_
            exact key2 _ 0 0 rfl (by omega) (Or.inr ⟨rfl, fun z => by have := z.1; omega⟩)
          · rw [e34, nI_leI (by omega) (by omega)] at c34z
            refine zr_iconst 38 (x := 1) rfl rfl (by decide) ?_
            refine zr_goto 42 rfl (by decide) ?_
            refine zr_istore_n 43 (L2 := [_, _, _, _, _]) rfl rfl (Nat.le_of_ble_eq_true rfl) (by first | exact trivial | exact rfl) rfl ?_
            refine zr_iconst 44 (x := 0) rfl rfl (by decide) ?_
            refine zr_istore 46 (L2 := [_, _, _, _, _]) rfl rfl (Nat.le_of_ble_eq_true rfl) (by first | exact trivial | exact rfl) rfl ?_
            exact key2 _ 0 1 rfl (by omega) (Or.inl ⟨rfl, by omega, fun t ht => absurd ht (Nat.not_lt_zero _)⟩)
    refine zr_iconst 20 (x := 0) rfl rfl (by decide) ?_
    refine zr_istore_n 21 (L2 := [_, _, _, _, _]) rfl rfl (Nat.le_of_ble_eq_true rfl) (by first | exact trivial | exact rfl) rfl ?_
    exact key _ 0 rfl (Nat.zero_le _) (zper_in hm6 hi _)
  · replace c5z := zb_0.mp c5z
    refine zr_iconst 9 (x := (-1)) rfl rfl (by decide) ?_
    refine zr_iret rfl rfl ?_
    exact ⟨ξ, rfl, by rw [zper_out rfl _ c5z], h, zfm.rf _⟩
