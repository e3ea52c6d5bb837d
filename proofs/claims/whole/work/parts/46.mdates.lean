abbrev zfm (ξ ξ2 : Nat → Nat → Int32) : Prop := (∀ a, (a < 42 ∨ 51 ≤ a) → a ≠ 60 → ξ2 a = ξ a) ∧ ∀ k, (k = 13 ∨ k = 33 ∨ k = 45 ∨ k = 47) → ξ2 42 k = ξ 42 k
theorem zfm.rf (ξ : Nat → Nat → Int32) : zfm ξ ξ := ⟨fun _ _ _ => rfl, fun _ _ => rfl⟩
theorem zfm.tr {ξ ξ1 ξ2 : Nat → Nat → Int32} (f : zfm ξ ξ1) (g : zfm ξ1 ξ2) : zfm ξ ξ2 := ⟨fun a h1 h2 => (g.1 a h1 h2).trans (f.1 a h1 h2), fun k h => (g.2 k h).trans (f.2 k h)⟩
theorem zft.fm {ξ ξ2 : Nat → Nat → Int32} (f : zft ξ ξ2) : zfm ξ ξ2 := ⟨fun a h1 _ => f.1 a (by omega) (by omega), fun k h => f.2.1 k (by omega) (by omega)⟩
theorem zfg.fm {ao : Nat} {ξ ξ2 : Nat → Nat → Int32} (f : zfg ao ξ ξ2) : zfm ξ ξ2 := ⟨fun a h1 _ => f.1 a (by omega) (by omega), fun k h => f.2.1 k (by omega) (by omega)⟩
theorem zfm.u {ξ ξ1 : Nat → Nat → Int32} (f : zfm ξ ξ1) (a k : Nat) (v : Int32) (h : 42 ≤ a ∧ a < 51 ∧ (a = 42 → k ≠ 13 ∧ k ≠ 33 ∧ k ≠ 45 ∧ k ≠ 47)) : zfm ξ (zu ξ1 a k v) :=
  ⟨fun b h1 h2 => by rw [zun (by omega)]; exact f.1 b h1 h2, fun j hj => by
    rw [zu_ne (by by_cases q : a = 42; exact Or.inr (by have := h.2.2 q; omega); exact Or.inl (Ne.symm q))]
    exact f.2 j hj⟩
theorem zle0 {j : Nat} (h : j < 1000) : nI j ≤ 0 ↔ j = 0 := by
  rw [Int32.le_iff_toInt_le, nI_toInt (by omega), zI0]
  omega
theorem zMR.rb {ξ ξ2 : Nat → Nat → Int32} {ao : Nat} {K : zCs} (h : zMR ξ ao K) {D : Nat} {dd dp : Nat → Int32} (e1 : ξ2 42 1 = nI D) (e2 : ∀ i, i < D → ξ2 44 i = dd i) (e3 : ∀ i, i < D → ξ2 45 i = dp i) (fk : ∀ k, k ≠ 1 → ξ2 42 k = ξ 42 k) (fa : ∀ a, a ≠ 42 → a ≠ 44 → a ≠ 45 → ξ2 a = ξ a) : zMR ξ2 ao (D, K.M, K.T, K.z, K.law, dd, dp, K.p) := by
  obtain ⟨a1, a2, a3, a4, a5, a6, a7, a8, a9, a10, a11⟩ := h
  refine ⟨a1, by rw [fk 10 (by decide)]; exact a2, e1, by rw [fk 4 (by decide)]; exact a4, by rw [fa 50 (by decide) (by decide) (by decide)]; exact a5, by rw [fk 11 (by decide)]; exact a6, by rw [fa 43 (by decide) (by decide) (by decide)]; exact a7, e2, e3, ?_, ?_⟩
  · rw [fa 46 (by decide) (by decide) (by decide), fa 47 (by decide) (by decide) (by decide), fa 48 (by decide) (by decide) (by decide), fa 49 (by decide) (by decide) (by decide)]
    exact a10
  · rw [fa 50 (by decide) (by decide) (by decide)]
    exact a11
theorem zMR.slaw {ξ : Nat → Nat → Int32} {ao : Nat} {K : zCs} (h : zMR ξ ao K) (l : Nat) (v : Int32) : zMR (zu ξ 43 l v) ao (K.slaw l v) := by
  obtain ⟨a1, a2, a3, a4, a5, a6, a7, a8, a9, a10, a11⟩ := h
  refine ⟨a1, a2, a3, a4, a5, a6, fun j hj => ?_, a8, a9, a10, a11⟩
  rw [zup]
  show upd _ _ _ j = upd _ _ _ j
  unfold upd
  split
  · rfl
  · exact a7 j hj
theorem zMR.sz {ξ : Nat → Nat → Int32} {ao : Nat} {K : zCs} (h : zMR ξ ao K) (v : Int32) : zMR (zu ξ 42 11 v) ao (K.sz v) := by
  obtain ⟨a1, a2, a3, a4, a5, a6, a7, a8, a9, a10, a11⟩ := h
  exact ⟨a1, by rw [zu_ne (Or.inr (by decide))]; exact a2, by rw [zu_ne (Or.inr (by decide))]; exact a3, by rw [zu_ne (Or.inr (by decide))]; exact a4, a5, zu_same _ _ _ _, a7, a8, a9, a10, a11⟩
theorem zMR.hasD {ξ : Nat → Nat → Int32} {ao : Nat} {K : zCs} (h : zMR ξ ao K) (day : Int32) : (∃ i, i < K.D ∧ ξ 44 i = day) ↔ K.has day :=
  ⟨fun ⟨i, hi, e⟩ => ⟨i, hi, by rw [← h.hdd i hi]; exact e⟩, fun ⟨i, hi, e⟩ => ⟨i, hi, by rw [h.hdd i hi]; exact e⟩⟩
set_option maxRecDepth 20000 in
set_option maxHeartbeats 1000000 in
theorem c_MdropDates {S : Nat × (Nat → Int32)} {d n : Nat} {ξ : Nat → Nat → Int32} {ρ : zRho} {D : Nat} (hD : ξ 42 1 = nI D) (h3 : D ≤ 3) : Zc S (d + 1) jX6_dropDates [.ref 42] (zWof n ξ ρ) (fun r w => r = none ∧ ∃ ξ2, w = zWof n ξ2 ρ ∧ ξ2 42 1 = nI (zdropF (ξ 44) (ξ 43 0) D) ∧ (∀ a, a ≠ 42 → ξ2 a = ξ a) ∧ ∀ k, k ≠ 1 → ξ2 42 k = ξ 42 k) := by
  refine Zc_in (q := (6, 0, 0, 0, 1, 0, 0, zk_X6_dropDates)) rfl (Nat.le_of_ble_eq_true rfl) (L := [_]) rfl ?_
  have key : ∀ (k : Nat) (j : Nat) (ξ1 : Nat → Nat → Int32), j = k → ξ1 42 1 = nI j → (∀ a, a ≠ 42 → ξ1 a = ξ a) → (∀ k, k ≠ 1 → ξ1 42 k = ξ 42 k) → j ≤ D → zdropF (ξ 44) (ξ 43 0) D = zdropF (ξ 44) (ξ 43 0) j →  Zw S (Zc S d) 6 false 0 zk_X6_dropDates (fun r w => r = none ∧ ∃ ξ2, w = zWof n ξ2 ρ ∧ ξ2 42 1 = nI (zdropF (ξ 44) (ξ 43 0) D) ∧ (∀ a, a ≠ 42 → ξ2 a = ξ a) ∧ ∀ k, k ≠ 1 → ξ2 42 k = ξ 42 k) (0, [some (.ref 42)], [], (0, 0), zWof n ξ1 ρ) := by
    intro k
    induction k using Nat.strongRecOn with
    | ind k ih =>
      intro j ξ1 hk e0 fA fB hj ez
      refine zr_aload_n 1 rfl rfl rfl trivial ?_
      refine zr_getf 4 rfl rfl rfl rfl rfl ?_
      refine zr_if_le 51 7 rfl rfl (by decide) (fun c4z => ?_) (fun c4z => ?_)
      · have hj0 : j = 0 := (zle0 (by omega)).mp (by rw [← e0]; exact c4z)
        refine zr_ret rfl rfl ?_
        exact ⟨rfl, ξ1, rfl, by rw [e0, ez, hj0, zdropF], fA, fB⟩
      · have hj0 : ¬ j = 0 := fun q => c4z (by rw [e0, q]; decide)
        obtain ⟨j2, rfl⟩ : ∃ z, j = z + 1 := ⟨j - 1, by omega⟩
        have f44 : ξ1 44 = ξ 44 := fA 44 (by decide)
        have f43 : ξ1 43 = ξ 43 := fA 43 (by decide)
        refine zr_aload_n 8 rfl rfl rfl trivial ?_
        refine zr_getf 11 rfl rfl rfl rfl rfl ?_
        refine zr_aload_n 12 rfl rfl rfl trivial ?_
        refine zr_getf 15 rfl rfl rfl rfl rfl ?_
        refine zr_if_le 27 18 rfl rfl (by decide) (fun c15z => ?_) (fun c15z => ?_)
        · exact absurd c15z c4z
        · refine zr_aload_n 19 rfl rfl rfl trivial ?_
          refine zr_getf 22 rfl rfl rfl rfl rfl ?_
          refine zr_iconst 23 (x := 1) rfl rfl (by decide) ?_
          refine zr_isub 24 rfl rfl ?_
          rw [e0, nI_pred]
          refine zr_goto 28 rfl (by decide) ?_
          refine zr_iald 29 rfl rfl rfl (nI_clamp (by omega)) (vp_in_nI (by omega) (by omega)) ?_
          refine zr_aload_n 30 rfl rfl rfl trivial ?_
          refine zr_getf 33 rfl rfl rfl rfl rfl ?_
          refine zr_iconst 34 (x := 0) rfl rfl (by decide) ?_
          refine zr_iald 35 (i := 0) rfl rfl rfl (by decide) (by unfold vp_in; decide) ?_
          refine zr_icmp_lt 51 38 rfl rfl (by decide) (fun c35z => ?_) (fun c35z => ?_)
          · refine zr_ret rfl rfl ?_
            exact ⟨rfl, ξ1, rfl, by rw [e0, ez, zdropF, if_pos (by rw [← f44, ← f43]; exact c35z)], fA, fB⟩
          · refine zr_aload_n 39 rfl rfl rfl trivial ?_
            refine zr_dup 40 rfl rfl rfl ?_
            refine zr_getf 43 rfl rfl rfl rfl rfl ?_
            refine zr_iconst 44 (x := 1) rfl rfl (by decide) ?_
            refine zr_isub 45 rfl rfl ?_
            rw [e0, nI_pred]
            refine zr_putf 48 rfl rfl rfl rfl (Nat.le_of_ble_eq_true rfl) rfl trivial (fun h => by cases h) (zW_set (k := 1) rfl) ?_
            refine zr_goto 0 rfl (by decide) ?_
            refine ih _ (by omega) j2 _ rfl (zu_same _ _ _ _) (fun a ha => by rw [zun ha]; exact fA a ha) (fun k hk => by rw [zu_ne (Or.inr hk)]; exact fB k hk) (by omega) ?_
            rw [ez, zdropF, if_neg (by rw [← f44, ← f43]; exact c35z)]
  exact key _ D ξ rfl hD (fun _ _ => rfl) (fun _ _ => rfl) (Nat.le_refl _) rfl
theorem k_Mdrop {S : Nat × (Nat → Int32)} {d n : Nat} {ξ : Nat → Nat → Int32} {ρ : zRho} {K : zCs} {ao : Nat} (h : zMR ξ ao K) (h3 : K.D ≤ 3) : Zc S (d + 1) jX6_dropDates [.ref 42] (zWof n ξ ρ) (fun r w => r = none ∧ ∃ ξ2, w = zWof n ξ2 ρ ∧ zMR ξ2 ao K.drop ∧ (∀ a, a ≠ 42 → ξ2 a = ξ a) ∧ ∀ k, k ≠ 1 → ξ2 42 k = ξ 42 k) := by
  refine Zc_mono (d := d) (c_MdropDates h.hd h3) ?_
  rintro r w ⟨e1, ξ2, e2, f0, fa, fb⟩
  have le := zdropF_le K.dd (K.law 0) K.D
  rw [zdropF_cg K.D h.hdd, h.hl 0 (by decide)] at f0
  refine ⟨e1, ξ2, e2, ?_, fa, fb⟩
  refine h.rb f0 (fun i hi => ?_) (fun i hi => ?_) fb (fun a q _ _ => fa a q)
  · rw [fa 44 (by decide)]
    exact h.hdd i (by omega)
  · rw [fa 45 (by decide)]
    exact h.hdp i (by omega)
set_option maxRecDepth 20000 in
set_option maxHeartbeats 1000000 in
theorem c_MhasDate {S : Nat × (Nat → Int32)} {d n : Nat} {ξ : Nat → Nat → Int32} {ρ : zRho} {D : Nat} (hD : ξ 42 1 = nI D) (h3 : D ≤ 3) (day : Int32) : Zc S (d + 1) jX6_hasDate [.ref 42, .int day] (zWof n ξ ρ) (fun r w => r = some (.int (zb (∃ i, i < D ∧ ξ 44 i = day))) ∧ w = zWof n ξ ρ) := by
  refine Zc_in (q := (6, 0, 3, 1, 4, 0, 0, zk_X6_hasDate)) rfl (Nat.le_of_ble_eq_true rfl) (L := [_, _, _, _]) rfl ?_
  have key : ∀ (k : Nat) (j : Nat) (q : Int32), D - j = k → j ≤ D → q = zb (∃ i, i < j ∧ ξ 44 i = day) →  Zw S (Zc S d) 6 false 3 zk_X6_hasDate (fun r w => r = some (.int (zb (∃ i, i < D ∧ ξ 44 i = day))) ∧ w = zWof n ξ ρ) (4, [some (.ref 42), some (.int day), some (.int q), some (.int (nI j))], [], (0, 0), zWof n ξ ρ) := by
    intro k
    induction k using Nat.strongRecOn with
    | ind k ih =>
      intro j q hk hj hq
      refine zr_iload_n 5 rfl rfl rfl ?_
      refine zr_aload_n 6 rfl rfl rfl trivial ?_
      refine zr_getf 9 rfl rfl rfl rfl rfl ?_
      refine zr_icmp_ge 38 12 rfl rfl (by decide) (fun c9z => ?_) (fun c9z => ?_)
      · rw [hD, nI_leI (by omega) (by omega)] at c9z
        refine zr_iload_n 39 rfl rfl rfl ?_
        refine zr_zret rfl rfl (by rw [hq]; exact zb_01 _) ?_
        exact ⟨by rw [hq, show j = D by omega], rfl⟩
      · rw [hD, nI_leI (by omega) (by omega)] at c9z
        refine zr_iload_n 13 rfl rfl rfl ?_
        refine zr_if_ne 26 16 rfl rfl (by decide) (fun c13z => ?_) (fun c13z => ?_)
        · rw [hq, zb_n0] at c13z
          refine zr_iconst 27 (x := 1) rfl rfl (by decide) ?_
          refine zr_goto 31 rfl (by decide) ?_
          refine zr_istore_n 32 (L2 := [_, _, _, _]) rfl rfl (Nat.le_of_ble_eq_true rfl) (by first | exact trivial | exact rfl) rfl ?_
          refine zr_iinc 35 (c0 := 1) (L2 := [_, _, _, _]) rfl rfl rfl (by first | exact trivial | exact rfl) (by decide) rfl ?_
          refine zr_goto 4 rfl (by decide) ?_
          rw [nI_1]
          exact ih _ (by omega) (j + 1) 1 rfl (by omega) (zb_t (by obtain ⟨i, hi, e⟩ := c13z; exact ⟨i, by omega, e⟩)).symm
        · rw [hq, zb_0] at c13z
          refine zr_aload_n 17 rfl rfl rfl trivial ?_
          refine zr_getf 20 rfl rfl rfl rfl rfl ?_
          refine zr_iload_n 21 rfl rfl rfl ?_
          refine zr_iald 22 rfl rfl rfl (nI_clamp (by omega)) (vp_in_nI (by omega) (by omega)) ?_
          refine zr_iload_n 23 rfl rfl rfl ?_
          refine zr_icmp_ne 30 26 rfl rfl (by decide) (fun c23z => ?_) (fun c23z => ?_)
          · refine zr_iconst 31 (x := 0) rfl rfl (by decide) ?_
            refine zr_istore_n 32 (L2 := [_, _, _, _]) rfl rfl (Nat.le_of_ble_eq_true rfl) (by first | exact trivial | exact rfl) rfl ?_
            refine zr_iinc 35 (c0 := 1) (L2 := [_, _, _, _]) rfl rfl rfl (by first | exact trivial | exact rfl) (by decide) rfl ?_
            refine zr_goto 4 rfl (by decide) ?_
            rw [nI_1]
            exact ih _ (by omega) (j + 1) 0 rfl (by omega) (zb_f (fun ⟨i, hi, e⟩ => by
              by_cases z : i = j
              · subst z
                exact c23z e
              · exact c13z ⟨i, by omega, e⟩)).symm
          · refine zr_iconst 27 (x := 1) rfl rfl (by decide) ?_
            refine zr_goto 31 rfl (by decide) ?_
            refine zr_istore_n 32 (L2 := [_, _, _, _]) rfl rfl (Nat.le_of_ble_eq_true rfl) (by first | exact trivial | exact rfl) rfl ?_
            refine zr_iinc 35 (c0 := 1) (L2 := [_, _, _, _]) rfl rfl rfl (by first | exact trivial | exact rfl) (by decide) rfl ?_
            refine zr_goto 4 rfl (by decide) ?_
            rw [nI_1]
            exact ih _ (by omega) (j + 1) 1 rfl (by omega) (zb_t ⟨j, by omega, c23z⟩).symm
  refine zr_iconst 1 (x := 0) rfl rfl (by decide) ?_
  refine zr_istore_n 2 (L2 := [_, _, _, _]) rfl rfl (Nat.le_of_ble_eq_true rfl) (by first | exact trivial | exact rfl) rfl ?_
  refine zr_iconst 3 (x := 0) rfl rfl (by decide) ?_
  refine zr_istore_n 4 (L2 := [_, _, _, _]) rfl rfl (Nat.le_of_ble_eq_true rfl) (by first | exact trivial | exact rfl) rfl ?_
  exact key _ 0 0 rfl (Nat.zero_le _) (zb_f (fun ⟨i, hi, _⟩ => Nat.not_lt_zero i hi)).symm
set_option maxRecDepth 20000 in
set_option maxHeartbeats 1000000 in
theorem c_MaddDate {S : Nat × (Nat → Int32)} {d n : Nat} {ξ : Nat → Nat → Int32} {ρ : zRho} {D : Nat} (hD : ξ 42 1 = nI D) (h3 : D < 3) (day part : Int32) : Zc S (d + 1) jX6_addDate [.ref 42, .int day, .int part] (zWof n ξ ρ) (fun r w => r = none ∧ ∃ ξ2, w = zWof n ξ2 ρ ∧ (ξ2 44, ξ2 45) = zaddF day part D (ξ 44, ξ 45) ∧ ξ2 42 1 = nI (D + 1) ∧ (∀ k, k ≠ 1 → ξ2 42 k = ξ 42 k) ∧ ∀ a, a ≠ 42 → a ≠ 44 → a ≠ 45 → ξ2 a = ξ a) := by
  refine Zc_in (q := (6, 0, 0, 2, 4, 0, 0, zk_X6_addDate)) rfl (Nat.le_of_ble_eq_true rfl) (L := [_, _, _, _]) rfl ?_
  have key : ∀ (k : Nat) (i : Nat) (ξ1 : Nat → Nat → Int32), i = k → i ≤ D → (∀ a, a ≠ 44 → a ≠ 45 → ξ1 a = ξ a) → zaddF day part D (ξ 44, ξ 45) = zaddF day part i (ξ1 44, ξ1 45) →  Zw S (Zc S d) 6 false 0 zk_X6_addDate (fun r w => r = none ∧ ∃ ξ2, w = zWof n ξ2 ρ ∧ (ξ2 44, ξ2 45) = zaddF day part D (ξ 44, ξ 45) ∧ ξ2 42 1 = nI (D + 1) ∧ (∀ k, k ≠ 1 → ξ2 42 k = ξ 42 k) ∧ ∀ a, a ≠ 42 → a ≠ 44 → a ≠ 45 → ξ2 a = ξ a) (5, [some (.ref 42), some (.int day), some (.int part), some (.int (nI i))], [], (0, 0), zWof n ξ1 ρ) := by
    intro k
    induction k using Nat.strongRecOn with
    | ind k ih =>
      intro i ξ1 hk h2 f1 e3
      refine zr_iload_n 6 rfl rfl rfl ?_
      refine zr_if_le 63 9 rfl rfl (by decide) (fun c6z => ?_) (fun c6z => ?_)
      · have c6p : i = 0 := (zle0 (by omega)).mp c6z
        refine zr_aload_n 64 rfl rfl rfl trivial ?_
        refine zr_getf 67 rfl rfl rfl rfl rfl ?_
        refine zr_iload_n 68 rfl rfl rfl ?_
        refine zr_iload_n 69 rfl rfl rfl ?_
        refine zr_iast 70 rfl rfl rfl (nI_clamp (by omega)) (vp_in_nI (by omega) (by omega)) (zW_set rfl) ?_
        refine zr_aload_n 71 rfl rfl rfl trivial ?_
        refine zr_getf 74 rfl rfl rfl rfl rfl ?_
        refine zr_iload_n 75 rfl rfl rfl ?_
        refine zr_iload_n 76 rfl rfl rfl ?_
        refine zr_iast 77 rfl rfl rfl (nI_clamp (by omega)) (vp_in_nI (by omega) (by omega)) (zW_set rfl) ?_
        refine zr_aload_n 78 rfl rfl rfl trivial ?_
        refine zr_dup 79 rfl rfl rfl ?_
        refine zr_getf 82 rfl rfl rfl rfl rfl ?_
        refine zr_iconst 83 (x := 1) rfl rfl (by decide) ?_
        refine zr_iadd 84 rfl rfl ?_
        refine zr_putf 87 rfl rfl rfl rfl (Nat.le_of_ble_eq_true rfl) rfl trivial (fun h => by cases h) (zW_set (k := 1) rfl) ?_
        refine zr_ret rfl rfl ?_
        refine ⟨rfl, _, rfl, ?_, ?_, fun k hk => ?_, fun a q1 q2 q3 => ?_⟩
        · rw [e3]
          subst c6p
          rfl
        · rw [zu_same, zun (by decide), zun (by decide), f1 42 (by decide) (by decide), hD, nI_1]
        · rw [zu_ne (Or.inr hk), zun (by decide), zun (by decide), f1 42 (by decide) (by decide)]
        · rw [zun q1, zun q3, zun q2]
          exact f1 a q2 q3
      · have c6p : ¬ i = 0 := fun q => c6z (by rw [q]; decide)
        obtain ⟨i2, rfl⟩ : ∃ z, i = z + 1 := ⟨i - 1, by omega⟩
        refine zr_aload_n 10 rfl rfl rfl trivial ?_
        refine zr_getf 13 rfl rfl rfl rfl rfl ?_
        refine zr_iload_n 14 rfl rfl rfl ?_
        refine zr_if_le 23 17 rfl rfl (by decide) (fun c14z => ?_) (fun c14z => ?_)
        · exact absurd c14z c6z
        · refine zr_iload_n 18 rfl rfl rfl ?_
          refine zr_iconst 19 (x := 1) rfl rfl (by decide) ?_
          refine zr_isub 20 rfl rfl ?_
          rw [nI_pred]
          refine zr_goto 24 rfl (by decide) ?_
          refine zr_iald 25 rfl rfl rfl (nI_clamp (by omega)) (vp_in_nI (by omega) (by omega)) ?_
          refine zr_iload_n 26 rfl rfl rfl ?_
          refine zr_icmp_le 63 29 rfl rfl (by decide) (fun c26z => ?_) (fun c26z => ?_)
          · refine zr_aload_n 64 rfl rfl rfl trivial ?_
            refine zr_getf 67 rfl rfl rfl rfl rfl ?_
            refine zr_iload_n 68 rfl rfl rfl ?_
            refine zr_iload_n 69 rfl rfl rfl ?_
            refine zr_iast 70 rfl rfl rfl (nI_clamp (by omega)) (vp_in_nI (by omega) (by omega)) (zW_set rfl) ?_
            refine zr_aload_n 71 rfl rfl rfl trivial ?_
            refine zr_getf 74 rfl rfl rfl rfl rfl ?_
            refine zr_iload_n 75 rfl rfl rfl ?_
            refine zr_iload_n 76 rfl rfl rfl ?_
            refine zr_iast 77 rfl rfl rfl (nI_clamp (by omega)) (vp_in_nI (by omega) (by omega)) (zW_set rfl) ?_
            refine zr_aload_n 78 rfl rfl rfl trivial ?_
            refine zr_dup 79 rfl rfl rfl ?_
            refine zr_getf 82 rfl rfl rfl rfl rfl ?_
            refine zr_iconst 83 (x := 1) rfl rfl (by decide) ?_
            refine zr_iadd 84 rfl rfl ?_
            refine zr_putf 87 rfl rfl rfl rfl (Nat.le_of_ble_eq_true rfl) rfl trivial (fun h => by cases h) (zW_set (k := 1) rfl) ?_
            refine zr_ret rfl rfl ?_
            refine ⟨rfl, _, rfl, ?_, ?_, fun k hk => ?_, fun a q1 q2 q3 => ?_⟩
            · rw [e3]
              rw [zaddF, if_pos c26z]
              rfl
            · rw [zu_same, zun (by decide), zun (by decide), f1 42 (by decide) (by decide), hD, nI_1]
            · rw [zu_ne (Or.inr hk), zun (by decide), zun (by decide), f1 42 (by decide) (by decide)]
            · rw [zun q1, zun q3, zun q2]
              exact f1 a q2 q3
          · refine zr_aload_n 30 rfl rfl rfl trivial ?_
            refine zr_getf 33 rfl rfl rfl rfl rfl ?_
            refine zr_iload_n 34 rfl rfl rfl ?_
            refine zr_aload_n 35 rfl rfl rfl trivial ?_
            refine zr_getf 38 rfl rfl rfl rfl rfl ?_
            refine zr_iload_n 39 rfl rfl rfl ?_
            refine zr_iconst 40 (x := 1) rfl rfl (by decide) ?_
            refine zr_isub 41 rfl rfl ?_
            rw [nI_pred]
            refine zr_iald 42 rfl rfl rfl (nI_clamp (by omega)) (vp_in_nI (by omega) (by omega)) ?_
            refine zr_iast 43 rfl rfl rfl (nI_clamp (by omega)) (vp_in_nI (by omega) (by omega)) (zW_set rfl) ?_
            refine zr_aload_n 44 rfl rfl rfl trivial ?_
            refine zr_getf 47 rfl rfl rfl rfl rfl ?_
            refine zr_iload_n 48 rfl rfl rfl ?_
            refine zr_aload_n 49 rfl rfl rfl trivial ?_
            refine zr_getf 52 rfl rfl rfl rfl rfl ?_
            refine zr_iload_n 53 rfl rfl rfl ?_
            refine zr_iconst 54 (x := 1) rfl rfl (by decide) ?_
            refine zr_isub 55 rfl rfl ?_
            rw [nI_pred]
            refine zr_iald 56 rfl rfl rfl (nI_clamp (by omega)) (vp_in_nI (by omega) (by omega)) ?_
            refine zr_iast 57 rfl rfl rfl (nI_clamp (by omega)) (vp_in_nI (by omega) (by omega)) (zW_set rfl) ?_
            refine zr_iinc 60 (c0 := (-1)) (L2 := [_, _, _, _]) rfl rfl rfl (by first | exact trivial | exact rfl) (by decide) rfl ?_
            rw [pk_m1]
            refine zr_goto 5 rfl (by decide) ?_
            refine ih i2 (by omega) i2 _ rfl (by omega) (fun a q2 q3 => by rw [zun q3, zun q2]; exact f1 a q2 q3) ?_
            rw [e3, zaddF, if_neg c26z]
            rfl
  refine zr_aload_n 1 rfl rfl rfl trivial ?_
  refine zr_getf 4 rfl rfl rfl rfl rfl ?_
  refine zr_istore_n 5 (L2 := [_, _, _, _]) rfl rfl (Nat.le_of_ble_eq_true rfl) (by first | exact trivial | exact rfl) rfl ?_
  rw [hD]
  exact key D D ξ rfl (Nat.le_refl _) (fun _ _ _ => rfl) rfl
theorem k_MaddDate {S : Nat × (Nat → Int32)} {d n : Nat} {ξ : Nat → Nat → Int32} {ρ : zRho} {K : zCs} {ao : Nat} (h : zMR ξ ao K) (h3 : K.D < 3) (day part : Int32) : Zc S (d + 1) jX6_addDate [.ref 42, .int day, .int part] (zWof n ξ ρ) (fun r w => r = none ∧ ∃ ξ2, w = zWof n ξ2 ρ ∧ zMR ξ2 ao (K.addD day part) ∧ (∀ k, k ≠ 1 → ξ2 42 k = ξ 42 k) ∧ ∀ a, a ≠ 42 → a ≠ 44 → a ≠ 45 → ξ2 a = ξ a) := by
  refine Zc_mono (d := d) (c_MaddDate h.hd h3 day part) ?_
  rintro r w ⟨e1, ξ2, e2, f0, f1, fk, fa⟩
  have g1 : ξ2 44 = (zaddF day part K.D (ξ 44, ξ 45)).1 := congrArg Prod.fst f0
  have g2 : ξ2 45 = (zaddF day part K.D (ξ 44, ξ 45)).2 := congrArg Prod.snd f0
  have cg := zaddF_cg (day := day) (part := part) K.D (ξ 44, ξ 45) (K.dd, K.dp) h.hdd h.hdp
  exact ⟨e1, ξ2, e2, h.rb f1 (fun i hi => by rw [g1]; exact (cg i hi).1) (fun i hi => by rw [g2]; exact (cg i hi).2) fk fa, fk, fa⟩
set_option maxRecDepth 20000 in
set_option maxHeartbeats 1000000 in
theorem c_McutDate {S : Nat × (Nat → Int32)} {d n : Nat} {ξ : Nat → Nat → Int32} {ρ : zRho} {D gn : Nat} (hD : ξ 42 1 = nI D) (h3 : D ≤ 3) (hg : gn < D) : Zc S (d + 1) jX6_cutDate [.ref 42, .int (nI gn)] (zWof n ξ ρ) (fun r w => r = none ∧ ∃ ξ2, w = zWof n ξ2 ρ ∧ ξ2 44 = zrmF (D - 1 - gn) gn (ξ 44) ∧ ξ2 45 = zrmF (D - 1 - gn) gn (ξ 45) ∧ ξ2 42 1 = nI (D - 1) ∧ (∀ k, k ≠ 1 → ξ2 42 k = ξ 42 k) ∧ ∀ a, a ≠ 42 → a ≠ 44 → a ≠ 45 → ξ2 a = ξ a) := by
  refine Zc_in (q := (6, 0, 0, 1, 3, 0, 0, zk_X6_cutDate)) rfl (Nat.le_of_ble_eq_true rfl) (L := [_, _, _]) rfl ?_
  have key : ∀ (k : Nat) (i : Nat) (ξ1 : Nat → Nat → Int32), D - i = k → i ≤ D - 1 → ξ1 42 1 = nI (D - 1) → (∀ k, k ≠ 1 → ξ1 42 k = ξ 42 k) → (∀ a, a ≠ 42 → a ≠ 44 → a ≠ 45 → ξ1 a = ξ a) → zrmF (D - 1 - gn) gn (ξ 44) = zrmF (D - 1 - i) i (ξ1 44) → zrmF (D - 1 - gn) gn (ξ 45) = zrmF (D - 1 - i) i (ξ1 45) →  Zw S (Zc S d) 6 false 0 zk_X6_cutDate (fun r w => r = none ∧ ∃ ξ2, w = zWof n ξ2 ρ ∧ ξ2 44 = zrmF (D - 1 - gn) gn (ξ 44) ∧ ξ2 45 = zrmF (D - 1 - gn) gn (ξ 45) ∧ ξ2 42 1 = nI (D - 1) ∧ (∀ k, k ≠ 1 → ξ2 42 k = ξ 42 k) ∧ ∀ a, a ≠ 42 → a ≠ 44 → a ≠ 45 → ξ2 a = ξ a) (12, [some (.ref 42), some (.int (nI gn)), some (.int (nI i))], [], (0, 0), zWof n ξ1 ρ) := by
    intro k
    induction k using Nat.strongRecOn with
    | ind k ih =>
      intro i ξ1 hk h2 f0 fk fa e2 e3
      refine zr_iload_n 13 rfl rfl rfl ?_
      refine zr_aload_n 14 rfl rfl rfl trivial ?_
      refine zr_getf 17 rfl rfl rfl rfl rfl ?_
      refine zr_icmp_ge 54 20 rfl rfl (by decide) (fun c17z => ?_) (fun c17z => ?_)
      · rw [f0, nI_leI (by omega) (by omega)] at c17z
        refine zr_ret rfl rfl ?_
        exact ⟨rfl, ξ1, rfl, by rw [e2, show D - 1 - i = 0 by omega, zrmF], by rw [e3, show D - 1 - i = 0 by omega, zrmF], f0, fk, fa⟩
      · rw [f0, nI_leI (by omega) (by omega)] at c17z
        refine zr_aload_n 21 rfl rfl rfl trivial ?_
        refine zr_getf 24 rfl rfl rfl rfl rfl ?_
        refine zr_iload_n 25 rfl rfl rfl ?_
        refine zr_aload_n 26 rfl rfl rfl trivial ?_
        refine zr_getf 29 rfl rfl rfl rfl rfl ?_
        refine zr_iload_n 30 rfl rfl rfl ?_
        refine zr_iconst 31 (x := 1) rfl rfl (by decide) ?_
        refine zr_iadd 32 rfl rfl ?_
        rw [nI_1]
        refine zr_iald 33 rfl rfl rfl (nI_clamp (by omega)) (vp_in_nI (by omega) (by omega)) ?_
        refine zr_iast 34 rfl rfl rfl (nI_clamp (by omega)) (vp_in_nI (by omega) (by omega)) (zW_set rfl) ?_
        refine zr_aload_n 35 rfl rfl rfl trivial ?_
        refine zr_getf 38 rfl rfl rfl rfl rfl ?_
        refine zr_iload_n 39 rfl rfl rfl ?_
        refine zr_aload_n 40 rfl rfl rfl trivial ?_
        refine zr_getf 43 rfl rfl rfl rfl rfl ?_
        refine zr_iload_n 44 rfl rfl rfl ?_
        refine zr_iconst 45 (x := 1) rfl rfl (by decide) ?_
        refine zr_iadd 46 rfl rfl ?_
        rw [nI_1]
        refine zr_iald 47 rfl rfl rfl (nI_clamp (by omega)) (vp_in_nI (by omega) (by omega)) ?_
        refine zr_iast 48 rfl rfl rfl (nI_clamp (by omega)) (vp_in_nI (by omega) (by omega)) (zW_set rfl) ?_
        refine zr_iinc 51 (c0 := 1) (L2 := [_, _, _]) rfl rfl rfl (by first | exact trivial | exact rfl) (by decide) rfl ?_
        refine zr_goto 12 rfl (by decide) ?_
        rw [nI_1]
        refine ih _ (by omega) (i + 1) _ rfl (by omega) (by rw [zun (by decide), zun (by decide)]; exact f0) (fun k hk => by rw [zun (by decide), zun (by decide)]; exact fk k hk) (fun a q1 q2 q3 => by rw [zun q3, zun q2]; exact fa a q1 q2 q3) ?_ ?_
        · rw [e2, show D - 1 - i = D - 1 - (i + 1) + 1 by omega, zrmF]
          rfl
        · rw [e3, show D - 1 - i = D - 1 - (i + 1) + 1 by omega, zrmF]
          rfl
  refine zr_aload_n 1 rfl rfl rfl trivial ?_
  refine zr_dup 2 rfl rfl rfl ?_
  refine zr_getf 5 rfl rfl rfl rfl rfl ?_
  refine zr_iconst 6 (x := 1) rfl rfl (by decide) ?_
  refine zr_isub 7 rfl rfl ?_
  refine zr_putf 10 rfl rfl rfl rfl (Nat.le_of_ble_eq_true rfl) rfl trivial (fun h => by cases h) (zW_set (k := 1) rfl) ?_
  refine zr_iload_n 11 rfl rfl rfl ?_
  refine zr_istore_n 12 (L2 := [_, _, _]) rfl rfl (Nat.le_of_ble_eq_true rfl) (by first | exact trivial | exact rfl) rfl ?_
  exact key _ gn _ rfl (by omega) (by rw [zu_same, hD, show D = D - 1 + 1 by omega, nI_pred, Nat.add_sub_cancel]) (fun k hk => zu_ne (Or.inr hk)) (fun a q1 _ _ => zun q1) rfl rfl
theorem k_McutDate {S : Nat × (Nat → Int32)} {d n : Nat} {ξ : Nat → Nat → Int32} {ρ : zRho} {K : zCs} {ao : Nat} (h : zMR ξ ao K) (h3 : K.D ≤ 3) {i : Nat} (hi : i < K.D) : Zc S (d + 1) jX6_cutDate [.ref 42, .int (nI i)] (zWof n ξ ρ) (fun r w => r = none ∧ ∃ ξ2, w = zWof n ξ2 ρ ∧ zMR ξ2 ao (K.cutD i) ∧ (∀ k, k ≠ 1 → ξ2 42 k = ξ 42 k) ∧ ∀ a, a ≠ 42 → a ≠ 44 → a ≠ 45 → ξ2 a = ξ a) := by
  refine Zc_mono (d := d) (c_McutDate h.hd h3 hi) ?_
  rintro r w ⟨e1, ξ2, e2, g1, g2, f1, fk, fa⟩
  exact ⟨e1, ξ2, e2, h.rb f1 (fun j hj => by rw [g1]; exact zrmF_cg _ _ _ _ (fun q hq => h.hdd q (by omega)) j (by omega)) (fun j hj => by rw [g2]; exact zrmF_cg _ _ _ _ (fun q hq => h.hdp q (by omega)) j (by omega)) fk fa, fk, fa⟩
theorem z01 (x : Int32) : (0 ≤ x ∧ x ≤ 1) ↔ (x = 0 ∨ x = 1) := by
  constructor
  · rintro ⟨a, b⟩
    obtain ⟨i, hi, rfl⟩ := zbetI (k := 1) rfl (by decide) a b
    rcases (by omega : i = 0 ∨ i = 1) with rfl | rfl
    · exact Or.inl rfl
    · exact Or.inr rfl
  · rintro (rfl | rfl) <;> decide
def zCs.dtOf (K : zCs) (x what : Int32) : Int32 := if ¬ (what = 0 ∨ what = 1) then -1 else if ¬ (0 ≤ x ∧ x < nI K.D) then -3 else if what = 0 then K.dd x.toNatClampNeg else K.dp x.toNatClampNeg
set_option maxRecDepth 20000 in
set_option maxHeartbeats 1000000 in
theorem c_Mset {S : Nat × (Nat → Int32)} {d n : Nat} {ξ : Nat → Nat → Int32} {ρ : zRho} {K : zCs} (h : zMR ξ 0 K) (hK : zOK K) (l v : Int32) : Zc S (d + 3) jX6_set [.ref 42, .int l, .int v] (zWof n ξ ρ) (fun r w => ∃ ξ2, w = zWof n ξ2 ρ ∧ r = some (.int (K.set l v).2) ∧ zMR ξ2 0 (K.set l v).1 ∧ zfm ξ ξ2) := by
  have hd3 := hK.d3
  have hm6 := hK.m6
  have ht60 := hK.t60
  refine Zc_in (q := (6, 0, 1, 2, 4, 0, 0, zk_X6_set)) rfl (Nat.le_of_ble_eq_true rfl) (L := [_, _, _, _]) rfl ?_
  refine zr_iload_n 1 rfl rfl rfl ?_
  refine zr_iload_n 2 rfl rfl rfl ?_
  refine zr_calls 5 (As := [_, _]) (u2 := (0, 0)) rfl rfl rfl rfl rfl rfl rfl (Nat.le_of_ble_eq_true rfl) (Nat.le_of_ble_eq_true rfl) (Nat.le_of_ble_eq_true rfl) (c_MisLaw _ _) rfl (fun v2 w2 h2z => ?_)
  obtain ⟨rfl, rfl⟩ := h2z
  refine zr_if_ne 10 8 rfl rfl (by decide) (fun c5z => ?_) (fun c5z => ?_)
  · replace c5z := zb_n0.mp c5z
    refine zr_aload_n 11 rfl rfl rfl trivial ?_
    refine zr_getf 14 rfl rfl rfl rfl rfl ?_
    refine zr_iload_n 15 rfl rfl rfl ?_
    refine zr_iald 16 rfl rfl rfl rfl (zvin_lt (zlok5 c5z).1 (zlok5 c5z).2 (by decide)) ?_
    refine zr_istore_n 17 (L2 := [_, _, _, _]) rfl rfl (Nat.le_of_ble_eq_true rfl) (by first | exact trivial | exact rfl) rfl ?_
    refine zr_aload_n 18 rfl rfl rfl trivial ?_
    refine zr_getf 21 rfl rfl rfl rfl rfl ?_
    refine zr_iload_n 22 rfl rfl rfl ?_
    refine zr_iload_n 23 rfl rfl rfl ?_
    refine zr_iast 24 rfl rfl rfl rfl (zvin_lt (zlok5 c5z).1 (zlok5 c5z).2 (by decide)) (zW_set rfl) ?_
    refine zr_aload_n 25 rfl rfl rfl trivial ?_
    refine zr_callv 28 (As := []) (u2 := (0, 0)) rfl rfl rfl rfl rfl rfl rfl (Nat.le_of_ble_eq_true rfl) (Nat.le_of_ble_eq_true rfl) (Nat.le_of_ble_eq_true rfl) rfl (k_Mdrop (h.slaw l.toNatClampNeg v) hd3) rfl (fun v2 w2 h25z => ?_)
    obtain ⟨rfl, ξ2, rfl, m2, fa, fb⟩ := h25z
    refine zr_iload_n 29 rfl rfl rfl ?_
    refine zr_iret rfl rfl ?_
    refine ⟨ξ2, rfl, ?_⟩
    rw [show K.set l v = _ from if_pos c5z]
    exact ⟨by rw [h.hl _ (zpidx (M := 5) (zlok5 c5z) (by decide))], m2, fun a q1 _ => by rw [fa a (by omega), zun (by omega)], fun k q => by rw [fb k (by omega), zun (by decide)]⟩
  · replace c5z := zb_0.mp c5z
    refine zr_iconst 9 (x := (-1)) rfl rfl (by decide) ?_
    refine zr_iret rfl rfl ?_
    refine ⟨ξ, rfl, ?_⟩
    rw [show K.set l v = _ from if_neg c5z]
    exact ⟨rfl, h, zfm.rf _⟩
set_option maxRecDepth 20000 in
set_option maxHeartbeats 1000000 in
theorem c_MlawOf {S : Nat × (Nat → Int32)} {d n : Nat} {ξ : Nat → Nat → Int32} {ρ : zRho} {K : zCs} (h : zMR ξ 0 K) (hK : zOK K) (x : Int32) : Zc S (d + 2) jX6_lawOf [.ref 42, .int x] (zWof n ξ ρ) (fun r w => r = some (.int (if 0 ≤ x ∧ x < 5 then K.law x.toNatClampNeg else -1)) ∧ w = zWof n ξ ρ) := by
  have hd3 := hK.d3
  have hm6 := hK.m6
  have ht60 := hK.t60
  refine Zc_in (q := (6, 0, 1, 1, 2, 0, 0, zk_X6_lawOf)) rfl (Nat.le_of_ble_eq_true rfl) (L := [_, _]) rfl ?_
  refine zr_iload_n 1 rfl rfl rfl ?_
  refine zr_iconst 2 (x := 0) rfl rfl (by decide) ?_
  refine zr_iconst 3 (x := 4) rfl rfl (by decide) ?_
  refine zr_calls 6 (As := [_, _, _]) (u2 := (0, 0)) rfl rfl rfl rfl rfl rfl rfl (Nat.le_of_ble_eq_true rfl) (Nat.le_of_ble_eq_true rfl) (Nat.le_of_ble_eq_true rfl) (c_Min _ _ _) rfl (fun v2 w2 h3z => ?_)
  obtain ⟨rfl, rfl⟩ := h3z
  refine zr_if_eq 18 9 rfl rfl (by decide) (fun c6z => ?_) (fun c6z => ?_)
  · replace c6z := zb_0.mp c6z
    rw [show (0 ≤ x ∧ x ≤ 4) ↔ (0 ≤ x ∧ x < 5) from zle1 (M := 5) (by decide)] at c6z
    refine zr_iconst 19 (x := (-1)) rfl rfl (by decide) ?_
    refine zr_iret rfl rfl ?_
    refine ⟨?_, rfl⟩
    rw [if_neg c6z]
  · replace c6z := zb_n0.mp c6z
    rw [show (0 ≤ x ∧ x ≤ 4) ↔ (0 ≤ x ∧ x < 5) from zle1 (M := 5) (by decide)] at c6z
    refine zr_aload_n 10 rfl rfl rfl trivial ?_
    refine zr_getf 13 rfl rfl rfl rfl rfl ?_
    refine zr_iload_n 14 rfl rfl rfl ?_
    refine zr_iald 15 rfl rfl rfl rfl (zvin_lt c6z.1 c6z.2 (by decide)) ?_
    refine zr_goto 19 rfl (by decide) ?_
    refine zr_iret rfl rfl ?_
    refine ⟨?_, rfl⟩
    rw [if_pos c6z, h.hl _ (zpidx (M := 5) c6z (by decide))]
set_option maxRecDepth 20000 in
set_option maxHeartbeats 1000000 in
theorem c_Mdate {S : Nat × (Nat → Int32)} {d n : Nat} {ξ : Nat → Nat → Int32} {ρ : zRho} {K : zCs} (h : zMR ξ 0 K) (hK : zOK K) (day part : Int32) : Zc S (d + 2) jX6_date [.ref 42, .int day, .int part] (zWof n ξ ρ) (fun r w => ∃ ξ2, w = zWof n ξ2 ρ ∧ r = some (.int (K.date day part).2) ∧ zMR ξ2 0 (K.date day part).1 ∧ zfm ξ ξ2) := by
  have hd3 := hK.d3
  have hm6 := hK.m6
  have ht60 := hK.t60
  refine Zc_in (q := (6, 0, 1, 2, 3, 0, 0, zk_X6_date)) rfl (Nat.le_of_ble_eq_true rfl) (L := [_, _, _]) rfl ?_
  refine zr_iload_n 1 rfl rfl rfl ?_
  refine zr_iconst 2 (x := 0) rfl rfl (by decide) ?_
  refine zr_aload_n 3 rfl rfl rfl trivial ?_
  refine zr_getf 6 rfl rfl rfl rfl rfl ?_
  refine zr_iconst 7 (x := 0) rfl rfl (by decide) ?_
  refine zr_iald 8 (i := 0) rfl rfl rfl (by decide) (by unfold vp_in; decide) ?_
  refine zr_iconst 9 (x := 1) rfl rfl (by decide) ?_
  refine zr_isub 10 rfl rfl ?_
  rw [h.hl 0 (by decide), hK.hU.1]
  refine zr_calls 13 (As := [_, _, _]) (u2 := (0, 0)) rfl rfl rfl rfl rfl rfl rfl (Nat.le_of_ble_eq_true rfl) (Nat.le_of_ble_eq_true rfl) (Nat.le_of_ble_eq_true rfl) (c_Min _ _ _) rfl (fun v2 w2 h10z => ?_)
  obtain ⟨rfl, rfl⟩ := h10z
  refine zr_if_eq 26 16 rfl rfl (by decide) (fun c13z => ?_) (fun c13z => ?_)
  · replace c13z := zb_0.mp c13z
    rw [zle1 (by have := hK.hU; omega), ← hK.hU.1] at c13z
    refine zr_iconst 27 (x := (-1)) rfl rfl (by decide) ?_
    refine zr_iret rfl rfl ?_
    have hg : day < 0 ∨ K.law 0 ≤ day ∨ part < 1 ∨ 99 < part := by
      by_cases q : day < 0
      · exact Or.inl q
      · exact Or.inr (Or.inl (Int32.not_lt.mp (fun z => c13z ⟨Int32.not_lt.mp q, z⟩)))
    refine ⟨ξ, rfl, ?_⟩
    rw [show K.date day part = _ from if_pos hg]
    exact ⟨rfl, h, zfm.rf _⟩
  · replace c13z := zb_n0.mp c13z
    rw [zle1 (by have := hK.hU; omega), ← hK.hU.1] at c13z
    refine zr_iload_n 17 rfl rfl rfl ?_
    refine zr_iconst 18 (x := 1) rfl rfl (by decide) ?_
    refine zr_bipush 20 (x := 99) rfl rfl (by decide) ?_
    refine zr_calls 23 (As := [_, _, _]) (u2 := (0, 0)) rfl rfl rfl rfl rfl rfl rfl (Nat.le_of_ble_eq_true rfl) (Nat.le_of_ble_eq_true rfl) (Nat.le_of_ble_eq_true rfl) (c_Min _ _ _) rfl (fun v2 w2 h20z => ?_)
    obtain ⟨rfl, rfl⟩ := h20z
    refine zr_if_ne 28 26 rfl rfl (by decide) (fun c23z => ?_) (fun c23z => ?_)
    · replace c23z := zb_n0.mp c23z
      refine zr_aload_n 29 rfl rfl rfl trivial ?_
      refine zr_iload_n 30 rfl rfl rfl ?_
      refine zr_callv 33 (As := [_]) (u2 := (0, 0)) rfl rfl rfl rfl rfl rfl rfl (Nat.le_of_ble_eq_true rfl) (Nat.le_of_ble_eq_true rfl) (Nat.le_of_ble_eq_true rfl) rfl (c_MhasDate h.hd hd3 _) rfl (fun v2 w2 h30z => ?_)
      obtain ⟨rfl, rfl⟩ := h30z
      refine zr_if_eq 39 36 rfl rfl (by decide) (fun c33z => ?_) (fun c33z => ?_)
      · replace c33z := zb_0.mp c33z
        rw [h.hasD] at c33z
        refine zr_aload_n 40 rfl rfl rfl trivial ?_
        refine zr_getf 43 rfl rfl rfl rfl rfl ?_
        refine zr_iconst 44 (x := 3) rfl rfl (by decide) ?_
        refine zr_icmp_ne 50 47 rfl rfl (by decide) (fun c44z => ?_) (fun c44z => ?_)
        · have hD3 : K.D < 3 := by
            have : ¬ K.D = 3 := fun q => c44z (by rw [h.hd, q]; rfl)
            omega
          refine zr_aload_n 51 rfl rfl rfl trivial ?_
          refine zr_iload_n 52 rfl rfl rfl ?_
          refine zr_iload_n 53 rfl rfl rfl ?_
          refine zr_callv 56 (As := [_, _]) (u2 := (0, 0)) rfl rfl rfl rfl rfl rfl rfl (Nat.le_of_ble_eq_true rfl) (Nat.le_of_ble_eq_true rfl) (Nat.le_of_ble_eq_true rfl) rfl (k_MaddDate h hD3 _ _) rfl (fun v2 w2 h53z => ?_)
          obtain ⟨rfl, ξ2, rfl, m2, fk, fa⟩ := h53z
          refine zr_aload_n 57 rfl rfl rfl trivial ?_
          refine zr_getf 60 rfl rfl rfl rfl rfl ?_
          refine zr_iret rfl rfl ?_
          have hg : ¬ (day < 0 ∨ K.law 0 ≤ day ∨ part < 1 ∨ 99 < part) := by
            rintro (q | q | q | q)
            · exact absurd c13z.1 (Int32.not_le.mpr q)
            · exact absurd c13z.2 (Int32.not_lt.mpr q)
            · exact absurd c23z.1 (Int32.not_le.mpr q)
            · exact absurd c23z.2 (Int32.not_le.mpr q)
          refine ⟨ξ2, rfl, ?_⟩
          rw [show K.date day part = _ from (if_neg hg).trans ((if_neg c33z).trans (if_neg (by omega)))]
          exact ⟨by rw [m2.hd]; rfl, m2, ⟨fun a q1 _ => fa a (by omega) (by omega) (by omega), fun k q => fk k (by omega)⟩⟩
        · have hD3 : 3 ≤ K.D := by
            rw [h.hd] at c44z
            exact Nat.le_of_eq ((nI_eq (b := 3) (by omega) (by decide)).mp c44z).symm
          refine zr_bipush 49 (x := (-2)) rfl rfl (by decide) ?_
          refine zr_iret rfl rfl ?_
          have hg : ¬ (day < 0 ∨ K.law 0 ≤ day ∨ part < 1 ∨ 99 < part) := by
            rintro (q | q | q | q)
            · exact absurd c13z.1 (Int32.not_le.mpr q)
            · exact absurd c13z.2 (Int32.not_lt.mpr q)
            · exact absurd c23z.1 (Int32.not_le.mpr q)
            · exact absurd c23z.2 (Int32.not_le.mpr q)
          refine ⟨ξ, rfl, ?_⟩
          rw [show K.date day part = _ from (if_neg hg).trans ((if_neg c33z).trans (if_pos hD3))]
          exact ⟨rfl, h, zfm.rf _⟩
      · replace c33z := zb_n0.mp c33z
        rw [h.hasD] at c33z
        refine zr_bipush 38 (x := (-4)) rfl rfl (by decide) ?_
        refine zr_iret rfl rfl ?_
        have hg : ¬ (day < 0 ∨ K.law 0 ≤ day ∨ part < 1 ∨ 99 < part) := by
          rintro (q | q | q | q)
          · exact absurd c13z.1 (Int32.not_le.mpr q)
          · exact absurd c13z.2 (Int32.not_lt.mpr q)
          · exact absurd c23z.1 (Int32.not_le.mpr q)
          · exact absurd c23z.2 (Int32.not_le.mpr q)
        refine ⟨ξ, rfl, ?_⟩
        rw [show K.date day part = _ from (if_neg hg).trans (if_pos c33z)]
        exact ⟨rfl, h, zfm.rf _⟩
    · replace c23z := zb_0.mp c23z
      refine zr_iconst 27 (x := (-1)) rfl rfl (by decide) ?_
      refine zr_iret rfl rfl ?_
      have hg : day < 0 ∨ K.law 0 ≤ day ∨ part < 1 ∨ 99 < part := by
        by_cases q : part < 1
        · exact Or.inr (Or.inr (Or.inl q))
        · exact Or.inr (Or.inr (Or.inr (Int32.not_le.mp (fun z => c23z ⟨Int32.not_lt.mp q, z⟩))))
      refine ⟨ξ, rfl, ?_⟩
      rw [show K.date day part = _ from if_pos hg]
      exact ⟨rfl, h, zfm.rf _⟩
set_option maxRecDepth 20000 in
set_option maxHeartbeats 1000000 in
theorem c_MdateOf {S : Nat × (Nat → Int32)} {d n : Nat} {ξ : Nat → Nat → Int32} {ρ : zRho} {K : zCs} (h : zMR ξ 0 K) (hK : zOK K) (x what : Int32) : Zc S (d + 2) jX6_dateOf [.ref 42, .int x, .int what] (zWof n ξ ρ) (fun r w => r = some (.int (K.dtOf x what)) ∧ w = zWof n ξ ρ) := by
  have hd3 := hK.d3
  have hm6 := hK.m6
  have ht60 := hK.t60
  refine Zc_in (q := (6, 0, 1, 2, 3, 0, 0, zk_X6_dateOf)) rfl (Nat.le_of_ble_eq_true rfl) (L := [_, _, _]) rfl ?_
  refine zr_iload_n 1 rfl rfl rfl ?_
  refine zr_iconst 2 (x := 0) rfl rfl (by decide) ?_
  refine zr_iconst 3 (x := 1) rfl rfl (by decide) ?_
  refine zr_calls 6 (As := [_, _, _]) (u2 := (0, 0)) rfl rfl rfl rfl rfl rfl rfl (Nat.le_of_ble_eq_true rfl) (Nat.le_of_ble_eq_true rfl) (Nat.le_of_ble_eq_true rfl) (c_Min _ _ _) rfl (fun v2 w2 h3z => ?_)
  obtain ⟨rfl, rfl⟩ := h3z
  refine zr_if_ne 11 9 rfl rfl (by decide) (fun c6z => ?_) (fun c6z => ?_)
  · replace c6z := zb_n0.mp c6z
    rw [z01] at c6z
    refine zr_iload_n 12 rfl rfl rfl ?_
    refine zr_iconst 13 (x := 0) rfl rfl (by decide) ?_
    refine zr_aload_n 14 rfl rfl rfl trivial ?_
    refine zr_getf 17 rfl rfl rfl rfl rfl ?_
    refine zr_iconst 18 (x := 1) rfl rfl (by decide) ?_
    refine zr_isub 19 rfl rfl ?_
    refine zr_calls 22 (As := [_, _, _]) (u2 := (0, 0)) rfl rfl rfl rfl rfl rfl rfl (Nat.le_of_ble_eq_true rfl) (Nat.le_of_ble_eq_true rfl) (Nat.le_of_ble_eq_true rfl) (c_Min _ _ _) rfl (fun v2 w2 h19z => ?_)
    obtain ⟨rfl, rfl⟩ := h19z
    refine zr_if_ne 30 25 rfl rfl (by decide) (fun c22z => ?_) (fun c22z => ?_)
    · replace c22z := zb_n0.mp c22z
      rw [h.hd, zle1 (by omega)] at c22z
      refine zr_iload_n 31 rfl rfl rfl ?_
      refine zr_if_ne 43 34 rfl rfl (by decide) (fun c31z => ?_) (fun c31z => ?_)
      · refine zr_aload_n 44 rfl rfl rfl trivial ?_
        refine zr_getf 47 rfl rfl rfl rfl rfl ?_
        refine zr_iload_n 48 rfl rfl rfl ?_
        refine zr_iald 49 rfl rfl rfl rfl (zpin c22z (by omega) (by omega)) ?_
        refine zr_iret rfl rfl ?_
        refine ⟨?_, rfl⟩
        unfold zCs.dtOf
        rw [if_neg (fun q => q c6z), if_neg (fun q => q c22z), if_neg c31z, h.hdp _ (zpidx c22z (by omega))]
      · refine zr_aload_n 35 rfl rfl rfl trivial ?_
        refine zr_getf 38 rfl rfl rfl rfl rfl ?_
        refine zr_iload_n 39 rfl rfl rfl ?_
        refine zr_iald 40 rfl rfl rfl rfl (zpin c22z (by omega) (by omega)) ?_
        refine zr_goto 49 rfl (by decide) ?_
        refine zr_iret rfl rfl ?_
        refine ⟨?_, rfl⟩
        unfold zCs.dtOf
        rw [if_neg (fun q => q c6z), if_neg (fun q => q c22z), if_pos c31z, h.hdd _ (zpidx c22z (by omega))]
    · replace c22z := zb_0.mp c22z
      rw [h.hd, zle1 (by omega)] at c22z
      refine zr_bipush 27 (x := (-3)) rfl rfl (by decide) ?_
      refine zr_goto 49 rfl (by decide) ?_
      refine zr_iret rfl rfl ?_
      refine ⟨?_, rfl⟩
      unfold zCs.dtOf
      rw [if_neg (fun q => q c6z), if_pos c22z]
  · replace c6z := zb_0.mp c6z
    rw [z01] at c6z
    refine zr_iconst 10 (x := (-1)) rfl rfl (by decide) ?_
    refine zr_iret rfl rfl ?_
    refine ⟨?_, rfl⟩
    unfold zCs.dtOf
    rw [if_pos c6z]
set_option maxRecDepth 20000 in
set_option maxHeartbeats 1000000 in
theorem c_Mstrike {S : Nat × (Nat → Int32)} {d n : Nat} {ξ : Nat → Nat → Int32} {ρ : zRho} {K : zCs} (h : zMR ξ 0 K) (hK : zOK K) (x : Int32) : Zc S (d + 2) jX6_strike [.ref 42, .int x] (zWof n ξ ρ) (fun r w => ∃ ξ2, w = zWof n ξ2 ρ ∧ r = some (.int (K.strike x).2) ∧ zMR ξ2 0 (K.strike x).1 ∧ zfm ξ ξ2) := by
  have hd3 := hK.d3
  have hm6 := hK.m6
  have ht60 := hK.t60
  refine Zc_in (q := (6, 0, 1, 1, 2, 0, 0, zk_X6_strike)) rfl (Nat.le_of_ble_eq_true rfl) (L := [_, _]) rfl ?_
  refine zr_iload_n 1 rfl rfl rfl ?_
  refine zr_iconst 2 (x := 0) rfl rfl (by decide) ?_
  refine zr_aload_n 3 rfl rfl rfl trivial ?_
  refine zr_getf 6 rfl rfl rfl rfl rfl ?_
  refine zr_iconst 7 (x := 1) rfl rfl (by decide) ?_
  refine zr_isub 8 rfl rfl ?_
  refine zr_calls 11 (As := [_, _, _]) (u2 := (0, 0)) rfl rfl rfl rfl rfl rfl rfl (Nat.le_of_ble_eq_true rfl) (Nat.le_of_ble_eq_true rfl) (Nat.le_of_ble_eq_true rfl) (c_Min _ _ _) rfl (fun v2 w2 h8z => ?_)
  obtain ⟨rfl, rfl⟩ := h8z
  refine zr_if_ne 16 14 rfl rfl (by decide) (fun c11z => ?_) (fun c11z => ?_)
  · replace c11z := zb_n0.mp c11z
    rw [h.hd, zle1 (by omega)] at c11z
    obtain ⟨i, hi, rfl⟩ := zperI rfl (by omega) c11z
    refine zr_aload_n 17 rfl rfl rfl trivial ?_
    refine zr_iload_n 18 rfl rfl rfl ?_
    refine zr_callv 21 (As := [_]) (u2 := (0, 0)) rfl rfl rfl rfl rfl rfl rfl (Nat.le_of_ble_eq_true rfl) (Nat.le_of_ble_eq_true rfl) (Nat.le_of_ble_eq_true rfl) rfl (k_McutDate h hd3 hi) rfl (fun v2 w2 h18z => ?_)
    obtain ⟨rfl, ξ2, rfl, m2, fk, fa⟩ := h18z
    refine zr_aload_n 22 rfl rfl rfl trivial ?_
    refine zr_getf 25 rfl rfl rfl rfl rfl ?_
    refine zr_iret rfl rfl ?_
    refine ⟨ξ2, rfl, ?_⟩
    rw [show K.strike (nI i) = (K.cutD i, nI (K.D - 1)) by
      unfold zCs.strike
      rw [if_pos c11z, nI_clamp (by omega)]]
    exact ⟨by rw [m2.hd]; rfl, m2, ⟨fun a q1 _ => fa a (by omega) (by omega) (by omega), fun k q => fk k (by omega)⟩⟩
  · replace c11z := zb_0.mp c11z
    rw [h.hd, zle1 (by omega)] at c11z
    refine zr_iconst 15 (x := (-1)) rfl rfl (by decide) ?_
    refine zr_iret rfl rfl ?_
    refine ⟨ξ, rfl, ?_⟩
    rw [show K.strike x = _ from if_neg c11z]
    exact ⟨rfl, h, zfm.rf _⟩
set_option maxRecDepth 20000 in
set_option maxHeartbeats 1000000 in
theorem c_Mtoday {S : Nat × (Nat → Int32)} {d n : Nat} {ξ : Nat → Nat → Int32} {ρ : zRho} {K : zCs} (h : zMR ξ 0 K) (hK : zOK K) : Zc S (d + 1) jX6_today [.ref 42] (zWof n ξ ρ) (fun r w => r = some (.int (nI K.T)) ∧ w = zWof n ξ ρ) := by
  have hd3 := hK.d3
  have hm6 := hK.m6
  have ht60 := hK.t60
  refine Zc_in (q := (6, 0, 1, 0, 1, 0, 0, zk_X6_today)) rfl (Nat.le_of_ble_eq_true rfl) (L := [_]) rfl ?_
  refine zr_aload_n 1 rfl rfl rfl trivial ?_
  refine zr_getf 4 rfl rfl rfl rfl rfl ?_
  refine zr_iconst 5 (x := 0) rfl rfl (by decide) ?_
  refine zr_iald 6 (i := 0) rfl rfl rfl (by decide) (by unfold vp_in; decide) ?_
  refine zr_iret rfl rfl ?_
  exact ⟨by rw [h.ht], rfl⟩
set_option maxRecDepth 20000 in
set_option maxHeartbeats 1000000 in
theorem c_Mseed {S : Nat × (Nat → Int32)} {d n : Nat} {ξ : Nat → Nat → Int32} {ρ : zRho} {K : zCs} (h : zMR ξ 0 K) (hK : zOK K) (v : Int32) : Zc S (d + 1) jX6_seed [.ref 42, .int v] (zWof n ξ ρ) (fun r w => ∃ ξ2, w = zWof n ξ2 ρ ∧ r = some (.int K.z) ∧ zMR ξ2 0 (K.sz v) ∧ zfm ξ ξ2) := by
  have hd3 := hK.d3
  have hm6 := hK.m6
  have ht60 := hK.t60
  refine Zc_in (q := (6, 0, 1, 1, 3, 0, 0, zk_X6_seed)) rfl (Nat.le_of_ble_eq_true rfl) (L := [_, _, _]) rfl ?_
  refine zr_aload_n 1 rfl rfl rfl trivial ?_
  refine zr_getf 4 rfl rfl rfl rfl rfl ?_
  refine zr_istore_n 5 (L2 := [_, _, _]) rfl rfl (Nat.le_of_ble_eq_true rfl) (by first | exact trivial | exact rfl) rfl ?_
  refine zr_aload_n 6 rfl rfl rfl trivial ?_
  refine zr_iload_n 7 rfl rfl rfl ?_
  refine zr_putf 10 rfl rfl rfl rfl (Nat.le_of_ble_eq_true rfl) rfl trivial (fun h => by cases h) (zW_set (k := 11) rfl) ?_
  refine zr_iload_n 11 rfl rfl rfl ?_
  refine zr_iret rfl rfl ?_
  exact ⟨_, rfl, by rw [h.hz], h.sz v, (zfm.rf ξ).u 42 11 v (by decide)⟩
