def zhd (h : Int32) : Int32 := if h = -9 then -1 else h
abbrev zMR (ξ : Nat → Nat → Int32) (ao : Nat) (K : zCs) : Prop := (ao = 0 ∨ ao = 19) ∧ ξ 42 10 = nI ao ∧ ξ 42 1 = nI K.D ∧ ξ 42 4 = nI K.M ∧ ξ 50 ao = nI K.T ∧ ξ 42 11 = K.z ∧ (∀ i, i < 5 → ξ 43 i = K.law i) ∧ (∀ i, i < K.D → ξ 44 i = K.dd i) ∧ (∀ i, i < K.D → ξ 45 i = K.dp i) ∧
  (∀ i, i < K.M → ξ 46 i = K.p i 0 ∧ ξ 47 i = K.p i 1 ∧ ξ 48 i = K.p i 2 ∧ ξ 49 i = K.p i 4) ∧ ∀ i, i < K.M → ξ 50 (ao + (1 + i)) = K.p i 3 ∧ ξ 50 (ao + (7 + i)) = zhd (K.p i 5) ∧ ξ 50 (ao + (13 + i)) = K.p i 6
section ZMR
variable {ξ : Nat → Nat → Int32} {ao : Nat} {K : zCs}
theorem zMR.ho (h : zMR ξ ao K) : ao = 0 ∨ ao = 19 := h.1
theorem zMR.ha (h : zMR ξ ao K) : ξ 42 10 = nI ao := h.2.1
theorem zMR.hd (h : zMR ξ ao K) : ξ 42 1 = nI K.D := h.2.2.1
theorem zMR.hm (h : zMR ξ ao K) : ξ 42 4 = nI K.M := h.2.2.2.1
theorem zMR.ht (h : zMR ξ ao K) : ξ 50 ao = nI K.T := h.2.2.2.2.1
theorem zMR.hz (h : zMR ξ ao K) : ξ 42 11 = K.z := h.2.2.2.2.2.1
theorem zMR.hl (h : zMR ξ ao K) : ∀ i, i < 5 → ξ 43 i = K.law i := h.2.2.2.2.2.2.1
theorem zMR.hdd (h : zMR ξ ao K) : ∀ i, i < K.D → ξ 44 i = K.dd i := h.2.2.2.2.2.2.2.1
theorem zMR.hdp (h : zMR ξ ao K) : ∀ i, i < K.D → ξ 45 i = K.dp i := h.2.2.2.2.2.2.2.2.1
theorem zMR.k0 (h : zMR ξ ao K) {i : Nat} (hi : i < K.M) : ξ 46 i = K.p i 0 := (h.2.2.2.2.2.2.2.2.2.1 i hi).1
theorem zMR.k1 (h : zMR ξ ao K) {i : Nat} (hi : i < K.M) : ξ 47 i = K.p i 1 := (h.2.2.2.2.2.2.2.2.2.1 i hi).2.1
theorem zMR.k2 (h : zMR ξ ao K) {i : Nat} (hi : i < K.M) : ξ 48 i = K.p i 2 := (h.2.2.2.2.2.2.2.2.2.1 i hi).2.2.1
theorem zMR.k4 (h : zMR ξ ao K) {i : Nat} (hi : i < K.M) : ξ 49 i = K.p i 4 := (h.2.2.2.2.2.2.2.2.2.1 i hi).2.2.2
theorem zMR.k3 (h : zMR ξ ao K) {i : Nat} (hi : i < K.M) : ξ 50 (ao + (1 + i)) = K.p i 3 := (h.2.2.2.2.2.2.2.2.2.2 i hi).1
theorem zMR.k5 (h : zMR ξ ao K) {i : Nat} (hi : i < K.M) : ξ 50 (ao + (7 + i)) = zhd (K.p i 5) := (h.2.2.2.2.2.2.2.2.2.2 i hi).2.1
theorem zMR.k6 (h : zMR ξ ao K) {i : Nat} (hi : i < K.M) : ξ 50 (ao + (13 + i)) = K.p i 6 := (h.2.2.2.2.2.2.2.2.2.2 i hi).2.2
theorem zMR.fr (h : zMR ξ ao K) (hM : K.M ≤ 6) {ξ2 : Nat → Nat → Int32} (f1 : ∀ b, 43 ≤ b → b < 50 → ξ2 b = ξ b) (f2 : ∀ k, k = 1 ∨ k = 4 ∨ k = 10 ∨ k = 11 → ξ2 42 k = ξ 42 k) (f3 : ∀ k, ao ≤ k → k < ao + 19 → ξ2 50 k = ξ 50 k) : zMR ξ2 ao K := by
  obtain ⟨a1, a2, a3, a4, a5, a6, a7, a8, a9, a10, a11⟩ := h
  refine ⟨a1, by rw [f2 10 (by omega)]; exact a2, by rw [f2 1 (by omega)]; exact a3, by rw [f2 4 (by omega)]; exact a4, by rw [f3 ao (by omega) (by omega)]; exact a5, by rw [f2 11 (by omega)]; exact a6, by rw [f1 43 (by omega) (by omega)]; exact a7, by rw [f1 44 (by omega) (by omega)]; exact a8, by rw [f1 45 (by omega) (by omega)]; exact a9, ?_, fun i hi => ?_⟩
  · rw [f1 46 (by omega) (by omega), f1 47 (by omega) (by omega), f1 48 (by omega) (by omega), f1 49 (by omega) (by omega)]
    exact a10
  · rw [f3 _ (by omega) (by omega), f3 _ (by omega) (by omega), f3 _ (by omega) (by omega)]
    exact a11 i hi
theorem zMR.cg (h : zMR ξ ao K) {p2 : Nat → Nat → Int32} (e : ∀ i, i < K.M → ∀ k, k < 7 → K.p i k = p2 i k) : zMR ξ ao (K.D, K.M, K.T, K.z, K.law, K.dd, K.dp, p2) := by
  obtain ⟨a1, a2, a3, a4, a5, a6, a7, a8, a9, a10, a11⟩ := h
  refine ⟨a1, a2, a3, a4, a5, a6, a7, a8, a9, fun i hi => ?_, fun i hi => ?_⟩
  · show ξ 46 i = p2 i 0 ∧ ξ 47 i = p2 i 1 ∧ ξ 48 i = p2 i 2 ∧ ξ 49 i = p2 i 4
    rw [← e i hi 0 (by decide), ← e i hi 1 (by decide), ← e i hi 2 (by decide), ← e i hi 4 (by decide)]
    exact a10 i hi
  · show ξ 50 (ao + (1 + i)) = p2 i 3 ∧ ξ 50 (ao + (7 + i)) = zhd (p2 i 5) ∧ ξ 50 (ao + (13 + i)) = p2 i 6
    rw [← e i hi 3 (by decide), ← e i hi 5 (by decide), ← e i hi 6 (by decide)]
    exact a11 i hi
theorem zMR.sp3 (h : zMR ξ ao K) (hM : K.M ≤ 6) {i : Nat} (hi : i < K.M) (v : Int32) : zMR (zu ξ 50 (ao + (1 + i)) v) ao (K.sp i 3 v) := by
  obtain ⟨a1, a2, a3, a4, a5, a6, a7, a8, a9, a10, a11⟩ := h
  refine ⟨a1, a2, a3, a4, by rw [zu_ne (Or.inr (by omega))]; exact a5, a6, a7, a8, a9, fun j hj => ?_, fun j hj => ?_⟩
  · show _ = (if j = i then upd (K.p i) 3 v else K.p j) 0 ∧ _ = (if j = i then upd (K.p i) 3 v else K.p j) 1 ∧ _ = (if j = i then upd (K.p i) 3 v else K.p j) 2 ∧ _ = (if j = i then upd (K.p i) 3 v else K.p j) 4
    by_cases e : j = i
    · subst e
      rw [if_pos rfl]
      exact a10 j hj
    · rw [if_neg e]
      exact a10 j hj
  · show _ = (if j = i then upd (K.p i) 3 v else K.p j) 3 ∧ _ = zhd ((if j = i then upd (K.p i) 3 v else K.p j) 5) ∧ _ = (if j = i then upd (K.p i) 3 v else K.p j) 6
    have hj2 : j < K.M := hj
    by_cases e : j = i
    · subst e
      rw [if_pos rfl, zu_same, zu_ne (Or.inr (by omega)), zu_ne (Or.inr (by omega))]
      exact ⟨rfl, (a11 j hj).2⟩
    · rw [if_neg e, zu_ne (Or.inr (by omega)), zu_ne (Or.inr (by omega)), zu_ne (Or.inr (by omega))]
      exact a11 j hj
theorem zMR.sp5 (h : zMR ξ ao K) (hM : K.M ≤ 6) {i : Nat} (hi : i < K.M) {v w : Int32} (hv : zhd v = w) : zMR (zu ξ 50 (ao + (7 + i)) w) ao (K.sp i 5 v) := by
  obtain ⟨a1, a2, a3, a4, a5, a6, a7, a8, a9, a10, a11⟩ := h
  refine ⟨a1, a2, a3, a4, by rw [zu_ne (Or.inr (by omega))]; exact a5, a6, a7, a8, a9, fun j hj => ?_, fun j hj => ?_⟩
  · show _ = (if j = i then upd (K.p i) 5 v else K.p j) 0 ∧ _ = (if j = i then upd (K.p i) 5 v else K.p j) 1 ∧ _ = (if j = i then upd (K.p i) 5 v else K.p j) 2 ∧ _ = (if j = i then upd (K.p i) 5 v else K.p j) 4
    by_cases e : j = i
    · subst e
      rw [if_pos rfl]
      exact a10 j hj
    · rw [if_neg e]
      exact a10 j hj
  · show _ = (if j = i then upd (K.p i) 5 v else K.p j) 3 ∧ _ = zhd ((if j = i then upd (K.p i) 5 v else K.p j) 5) ∧ _ = (if j = i then upd (K.p i) 5 v else K.p j) 6
    have hj2 : j < K.M := hj
    by_cases e : j = i
    · subst e
      rw [if_pos rfl, zu_same, zu_ne (Or.inr (by omega)), zu_ne (Or.inr (by omega))]
      exact ⟨(a11 j hj).1, hv.symm, (a11 j hj).2.2⟩
    · rw [if_neg e, zu_ne (Or.inr (by omega)), zu_ne (Or.inr (by omega)), zu_ne (Or.inr (by omega))]
      exact a11 j hj
theorem zMR.sp6 (h : zMR ξ ao K) (hM : K.M ≤ 6) {i : Nat} (hi : i < K.M) (v : Int32) : zMR (zu ξ 50 (ao + (13 + i)) v) ao (K.sp i 6 v) := by
  obtain ⟨a1, a2, a3, a4, a5, a6, a7, a8, a9, a10, a11⟩ := h
  refine ⟨a1, a2, a3, a4, by rw [zu_ne (Or.inr (by omega))]; exact a5, a6, a7, a8, a9, fun j hj => ?_, fun j hj => ?_⟩
  · show _ = (if j = i then upd (K.p i) 6 v else K.p j) 0 ∧ _ = (if j = i then upd (K.p i) 6 v else K.p j) 1 ∧ _ = (if j = i then upd (K.p i) 6 v else K.p j) 2 ∧ _ = (if j = i then upd (K.p i) 6 v else K.p j) 4
    by_cases e : j = i
    · subst e
      rw [if_pos rfl]
      exact a10 j hj
    · rw [if_neg e]
      exact a10 j hj
  · show _ = (if j = i then upd (K.p i) 6 v else K.p j) 3 ∧ _ = zhd ((if j = i then upd (K.p i) 6 v else K.p j) 5) ∧ _ = (if j = i then upd (K.p i) 6 v else K.p j) 6
    have hj2 : j < K.M := hj
    by_cases e : j = i
    · subst e
      rw [if_pos rfl, zu_same, zu_ne (Or.inr (by omega)), zu_ne (Or.inr (by omega))]
      exact ⟨(a11 j hj).1, (a11 j hj).2.1, rfl⟩
    · rw [if_neg e, zu_ne (Or.inr (by omega)), zu_ne (Or.inr (by omega)), zu_ne (Or.inr (by omega))]
      exact a11 j hj
end ZMR
theorem zle1 {x : Int32} {M : Nat} (hM : M < 1000) : (0 ≤ x ∧ x ≤ nI M - 1) ↔ (0 ≤ x ∧ x < nI M) := by
  have e : (nI M - 1).toInt = (M : Int) - 1 := by rw [zTsub (by rw [nI_toInt (by omega), zI1]; omega) (by rw [nI_toInt (by omega), zI1]; omega), nI_toInt (by omega), zI1]
  constructor
  · rintro ⟨a, b⟩
    refine ⟨a, Int32.lt_iff_toInt_lt.mpr ?_⟩
    have := Int32.le_iff_toInt_le.mp b
    rw [e] at this
    rw [nI_toInt (by omega)]
    omega
  · rintro ⟨a, b⟩
    refine ⟨a, Int32.le_iff_toInt_le.mpr ?_⟩
    have := Int32.lt_iff_toInt_lt.mp b
    rw [nI_toInt (by omega)] at this
    rw [e]
    omega
theorem zhd_neg {h : Int32} (hs : h = -9 ∨ 0 ≤ h.toInt) : (zhd h < 0 ↔ h = -9) ∧ (0 ≤ zhd h ↔ ¬ h = -9) := by
  unfold zhd
  rcases hs with e | e
  · rw [if_pos e]
    exact ⟨⟨fun _ => e, fun _ => by decide⟩, ⟨fun q => absurd q (by decide), fun q => absurd e q⟩⟩
  · have ne : ¬ h = -9 := fun q => by
      rw [q] at e
      exact absurd e (by decide)
    rw [if_neg ne]
    have p : 0 ≤ h := Int32.le_iff_toInt_le.mpr (by rw [zI0]; exact e)
    exact ⟨⟨fun q => absurd p (Int32.not_le.mpr q), fun q => absurd q ne⟩, ⟨fun _ => ne, fun _ => p⟩⟩
theorem zOK.h9 {K : zCs} (h : zOK K) {i : Nat} (hi : i < K.M) : K.p i 5 = -9 ∨ 0 ≤ (K.p i 5).toInt := by
  rcases (h.hp i hi).hs.2.2 with q | q
  · exact Or.inl q
  · exact Or.inr q.2.1
set_option maxRecDepth 20000 in
set_option maxHeartbeats 1000000 in
theorem c_Min {S : Nat × (Nat → Int32)} {d n : Nat} {ξ : Nat → Nat → Int32} {ρ : zRho} (x a b : Int32) : Zc S (d + 1) jX6_in [.int x, .int a, .int b] (zWof n ξ ρ) (fun r w => r = some (.int (zb (a ≤ x ∧ x ≤ b))) ∧ w = zWof n ξ ρ) := by
  refine Zc_in (q := (6, 2, 3, 3, 3, 0, 0, zk_X6_in)) rfl (Nat.le_of_ble_eq_true rfl) (L := [_, _, _]) rfl ?_
  refine zr_iload_n 1 rfl rfl rfl ?_
  refine zr_iload_n 2 rfl rfl rfl ?_
  refine zr_icmp_lt 14 5 rfl rfl (by decide) (fun c2z => ?_) (fun c2z => ?_)
  · refine zr_iconst 15 (x := 0) rfl rfl (by decide) ?_
    refine zr_zret rfl rfl (Or.inl rfl) ?_
    refine ⟨?_, rfl⟩
    rw [zb_f (fun z => absurd z.1 (Int32.not_le.mpr c2z))]
  · refine zr_iload_n 6 rfl rfl rfl ?_
    refine zr_iload_n 7 rfl rfl rfl ?_
    refine zr_icmp_gt 14 10 rfl rfl (by decide) (fun c7z => ?_) (fun c7z => ?_)
    · refine zr_iconst 15 (x := 0) rfl rfl (by decide) ?_
      refine zr_zret rfl rfl (Or.inl rfl) ?_
      refine ⟨?_, rfl⟩
      rw [zb_f (fun z => absurd z.2 (Int32.not_le.mpr c7z))]
    · refine zr_iconst 11 (x := 1) rfl rfl (by decide) ?_
      refine zr_goto 15 rfl (by decide) ?_
      refine zr_zret rfl rfl (Or.inr rfl) ?_
      refine ⟨?_, rfl⟩
      rw [zb_t ⟨Int32.not_lt.mp c2z, Int32.not_lt.mp c7z⟩]
set_option maxRecDepth 20000 in
set_option maxHeartbeats 1000000 in
theorem c_MisPerson {S : Nat × (Nat → Int32)} {d n : Nat} {ξ : Nat → Nat → Int32} {ρ : zRho} {K : zCs} {ao : Nat} (h : zMR ξ ao K) (hK : zOK K) (x : Int32) : Zc S (d + 2) jX6_isPerson [.ref 42, .int x] (zWof n ξ ρ) (fun r w => r = some (.int (zb (0 ≤ x ∧ x < nI K.M))) ∧ w = zWof n ξ ρ) := by
  have hd3 := hK.d3
  have hm6 := hK.m6
  have ht60 := hK.t60
  have hao := h.ho
  refine Zc_in (q := (6, 0, 3, 1, 2, 0, 0, zk_X6_isPerson)) rfl (Nat.le_of_ble_eq_true rfl) (L := [_, _]) rfl ?_
  refine zr_iload_n 1 rfl rfl rfl ?_
  refine zr_iconst 2 (x := 0) rfl rfl (by decide) ?_
  refine zr_aload_n 3 rfl rfl rfl trivial ?_
  refine zr_getf 6 rfl rfl rfl rfl rfl ?_
  refine zr_iconst 7 (x := 1) rfl rfl (by decide) ?_
  refine zr_isub 8 rfl rfl ?_
  refine zr_calls 11 (As := [_, _, _]) (u2 := (0, 0)) rfl rfl rfl rfl rfl rfl rfl (Nat.le_of_ble_eq_true rfl) (Nat.le_of_ble_eq_true rfl) (Nat.le_of_ble_eq_true rfl) (c_Min _ _ _) rfl (fun v2 w2 h8z => ?_)
  obtain ⟨rfl, rfl⟩ := h8z
  refine zr_zret rfl rfl (zb_01 _) ?_
  refine ⟨?_, rfl⟩
  rw [zb_c (show (0 ≤ x ∧ x ≤ ξ 42 4 - 1) ↔ (0 ≤ x ∧ x < nI K.M) by rw [h.hm]; exact zle1 (by omega))]
set_option maxRecDepth 20000 in
set_option maxHeartbeats 1000000 in
theorem c_MisLaw {S : Nat × (Nat → Int32)} {d n : Nat} {ξ : Nat → Nat → Int32} {ρ : zRho} (l v : Int32) : Zc S (d + 2) jX6_isLaw [.int l, .int v] (zWof n ξ ρ) (fun r w => r = some (.int (zb (zlok l v))) ∧ w = zWof n ξ ρ) := by
  refine Zc_in (q := (6, 2, 3, 2, 2, 0, 0, zk_X6_isLaw)) rfl (Nat.le_of_ble_eq_true rfl) (L := [_, _]) rfl ?_
  refine zr_iload_n 1 rfl rfl rfl ?_
  by_cases s1_0 : l = 0
  · refine zr_tsw_in 36 0 rfl (by rw [s1_0]; decide) (by decide) rfl (by decide) ?_
    refine zr_iload_n 37 rfl rfl rfl ?_
    refine zr_iconst 38 (x := 1) rfl rfl (by decide) ?_
    refine zr_bipush 40 (x := 50) rfl rfl (by decide) ?_
    refine zr_calls 43 (As := [_, _, _]) (u2 := (0, 0)) rfl rfl rfl rfl rfl rfl rfl (Nat.le_of_ble_eq_true rfl) (Nat.le_of_ble_eq_true rfl) (Nat.le_of_ble_eq_true rfl) (c_Min _ _ _) rfl (fun v2 w2 h40z => ?_)
    obtain ⟨rfl, rfl⟩ := h40z
    refine zr_zret rfl rfl (zb_01 _) ?_
    refine ⟨?_, rfl⟩
    first | (rw [zb_c (show _ ↔ zlok l v by unfold zlok; simp_all)]; done) | (rw [zb_f (show ¬ zlok l v by unfold zlok; simp_all)])
  by_cases s1_1 : l = 1
  · refine zr_tsw_in 44 1 rfl (by rw [s1_1]; decide) (by decide) rfl (by decide) ?_
    refine zr_iload_n 45 rfl rfl rfl ?_
    refine zr_iconst 46 (x := 1) rfl rfl (by decide) ?_
    refine zr_bipush 48 (x := 12) rfl rfl (by decide) ?_
    refine zr_calls 51 (As := [_, _, _]) (u2 := (0, 0)) rfl rfl rfl rfl rfl rfl rfl (Nat.le_of_ble_eq_true rfl) (Nat.le_of_ble_eq_true rfl) (Nat.le_of_ble_eq_true rfl) (c_Min _ _ _) rfl (fun v2 w2 h48z => ?_)
    obtain ⟨rfl, rfl⟩ := h48z
    refine zr_zret rfl rfl (zb_01 _) ?_
    refine ⟨?_, rfl⟩
    first | (rw [zb_c (show _ ↔ zlok l v by unfold zlok; simp_all)]; done) | (rw [zb_f (show ¬ zlok l v by unfold zlok; simp_all)])
  by_cases s1_2 : l = 2
  · refine zr_tsw_in 52 2 rfl (by rw [s1_2]; decide) (by decide) rfl (by decide) ?_
    refine zr_iload_n 53 rfl rfl rfl ?_
    refine zr_iconst 54 (x := 0) rfl rfl (by decide) ?_
    refine zr_bipush 56 (x := 30) rfl rfl (by decide) ?_
    refine zr_calls 59 (As := [_, _, _]) (u2 := (0, 0)) rfl rfl rfl rfl rfl rfl rfl (Nat.le_of_ble_eq_true rfl) (Nat.le_of_ble_eq_true rfl) (Nat.le_of_ble_eq_true rfl) (c_Min _ _ _) rfl (fun v2 w2 h56z => ?_)
    obtain ⟨rfl, rfl⟩ := h56z
    refine zr_zret rfl rfl (zb_01 _) ?_
    refine ⟨?_, rfl⟩
    first | (rw [zb_c (show _ ↔ zlok l v by unfold zlok; simp_all)]; done) | (rw [zb_f (show ¬ zlok l v by unfold zlok; simp_all)])
  by_cases s1_3 : l = 3
  · refine zr_tsw_in 60 3 rfl (by rw [s1_3]; decide) (by decide) rfl (by decide) ?_
    refine zr_iload_n 61 rfl rfl rfl ?_
    refine zr_iconst 62 (x := 0) rfl rfl (by decide) ?_
    refine zr_bipush 64 (x := 10) rfl rfl (by decide) ?_
    refine zr_calls 67 (As := [_, _, _]) (u2 := (0, 0)) rfl rfl rfl rfl rfl rfl rfl (Nat.le_of_ble_eq_true rfl) (Nat.le_of_ble_eq_true rfl) (Nat.le_of_ble_eq_true rfl) (c_Min _ _ _) rfl (fun v2 w2 h64z => ?_)
    obtain ⟨rfl, rfl⟩ := h64z
    refine zr_zret rfl rfl (zb_01 _) ?_
    refine ⟨?_, rfl⟩
    first | (rw [zb_c (show _ ↔ zlok l v by unfold zlok; simp_all)]; done) | (rw [zb_f (show ¬ zlok l v by unfold zlok; simp_all)])
  by_cases s1_4 : l = 4
  · refine zr_tsw_in 52 4 rfl (by rw [s1_4]; decide) (by decide) rfl (by decide) ?_
    refine zr_iload_n 53 rfl rfl rfl ?_
    refine zr_iconst 54 (x := 0) rfl rfl (by decide) ?_
    refine zr_bipush 56 (x := 30) rfl rfl (by decide) ?_
    refine zr_calls 59 (As := [_, _, _]) (u2 := (0, 0)) rfl rfl rfl rfl rfl rfl rfl (Nat.le_of_ble_eq_true rfl) (Nat.le_of_ble_eq_true rfl) (Nat.le_of_ble_eq_true rfl) (c_Min _ _ _) rfl (fun v2 w2 h56z => ?_)
    obtain ⟨rfl, rfl⟩ := h56z
    refine zr_zret rfl rfl (zb_01 _) ?_
    refine ⟨?_, rfl⟩
    first | (rw [zb_c (show _ ↔ zlok l v by unfold zlok; simp_all)]; done) | (rw [zb_f (show ¬ zlok l v by unfold zlok; simp_all)])
  refine zr_tsw_out 68 rfl (by have q0 := zne_i s1_0; have q1 := zne_i s1_1; have q2 := zne_i s1_2; have q3 := zne_i s1_3; have q4 := zne_i s1_4; rw [show (0 : Int32).toInt = 0 by decide] at q0; rw [show (1 : Int32).toInt = 1 by decide] at q1; rw [show (2 : Int32).toInt = 2 by decide] at q2; rw [show (3 : Int32).toInt = 3 by decide] at q3; rw [show (4 : Int32).toInt = 4 by decide] at q4; omega) (by decide) ?_
  refine zr_iconst 69 (x := 0) rfl rfl (by decide) ?_
  refine zr_zret rfl rfl (Or.inl rfl) ?_
  refine ⟨?_, rfl⟩
  first | (rw [zb_c (show _ ↔ zlok l v by unfold zlok; simp_all)]; done) | (rw [zb_f (show ¬ zlok l v by unfold zlok; simp_all)])
set_option maxRecDepth 20000 in
set_option maxHeartbeats 1000000 in
theorem c_Mits {S : Nat × (Nat → Int32)} {d n : Nat} {ξ : Nat → Nat → Int32} {ρ : zRho} {ao k : Nat} (ha : ξ 42 10 = nI ao) (hk : ao + k < 38) : Zc S (d + 1) jX6_its [.ref 42, .int (nI k)] (zWof n ξ ρ) (fun r w => r = some (.int (ξ 50 (ao + k))) ∧ w = zWof n ξ ρ) := by
  refine Zc_in (q := (6, 0, 1, 1, 2, 0, 0, zk_X6_its)) rfl (Nat.le_of_ble_eq_true rfl) (L := [_, _]) rfl ?_
  refine zr_aload_n 1 rfl rfl rfl trivial ?_
  refine zr_getf 4 rfl rfl rfl rfl rfl ?_
  refine zr_aload_n 5 rfl rfl rfl trivial ?_
  refine zr_getf 8 rfl rfl rfl rfl rfl ?_
  refine zr_iload_n 9 rfl rfl rfl ?_
  refine zr_iadd 10 rfl rfl ?_
  rw [ha, nI_add]
  refine zr_iald 11 rfl rfl rfl (nI_clamp (by omega)) (vp_in_nI (by omega) (by omega)) ?_
  refine zr_iret rfl rfl ?_
  exact ⟨rfl, rfl⟩
set_option maxRecDepth 20000 in
set_option maxHeartbeats 1000000 in
theorem c_Mbecomes {S : Nat × (Nat → Int32)} {d n : Nat} {ξ : Nat → Nat → Int32} {ρ : zRho} {ao k : Nat} (ha : ξ 42 10 = nI ao) (hk : ao + k < 38) (v : Int32) : Zc S (d + 1) jX6_becomes [.ref 42, .int (nI k), .int v] (zWof n ξ ρ) (fun r w => r = none ∧ w = zWof n (zu ξ 50 (ao + k) v) ρ) := by
  refine Zc_in (q := (6, 0, 0, 2, 3, 0, 0, zk_X6_becomes)) rfl (Nat.le_of_ble_eq_true rfl) (L := [_, _, _]) rfl ?_
  refine zr_aload_n 1 rfl rfl rfl trivial ?_
  refine zr_getf 4 rfl rfl rfl rfl rfl ?_
  refine zr_aload_n 5 rfl rfl rfl trivial ?_
  refine zr_getf 8 rfl rfl rfl rfl rfl ?_
  refine zr_iload_n 9 rfl rfl rfl ?_
  refine zr_iadd 10 rfl rfl ?_
  rw [ha, nI_add]
  refine zr_iload_n 11 rfl rfl rfl ?_
  refine zr_iast 12 rfl rfl rfl (nI_clamp (by omega)) (vp_in_nI (by omega) (by omega)) (zW_set rfl) ?_
  refine zr_ret rfl rfl ?_
  exact ⟨rfl, rfl⟩
set_option maxRecDepth 20000 in
set_option maxHeartbeats 1000000 in
theorem c_MorNot {S : Nat × (Nat → Int32)} {d n : Nat} {ξ : Nat → Nat → Int32} {ρ : zRho} (x : Int32) : Zc S (d + 1) jX6_orNot [.int x] (zWof n ξ ρ) (fun r w => r = some (.int (if x < 0 then -9 else x)) ∧ w = zWof n ξ ρ) := by
  refine Zc_in (q := (6, 2, 1, 1, 1, 0, 0, zk_X6_orNot)) rfl (Nat.le_of_ble_eq_true rfl) (L := [_]) rfl ?_
  refine zr_iload_n 1 rfl rfl rfl ?_
  refine zr_if_ge 9 4 rfl rfl (by decide) (fun c1z => ?_) (fun c1z => ?_)
  · refine zr_iload_n 10 rfl rfl rfl ?_
    refine zr_iret rfl rfl ?_
    refine ⟨?_, rfl⟩
    rw [if_neg (Int32.not_lt.mpr c1z)]
  · refine zr_bipush 6 (x := (-9)) rfl rfl (by decide) ?_
    refine zr_goto 10 rfl (by decide) ?_
    refine zr_iret rfl rfl ?_
    refine ⟨?_, rfl⟩
    rw [if_pos (Int32.not_le.mp c1z)]
set_option maxRecDepth 20000 in
set_option maxHeartbeats 1000000 in
theorem c_Mbegins {S : Nat × (Nat → Int32)} {d n : Nat} {ξ : Nat → Nat → Int32} {ρ : zRho} {i : Nat} (hi : i < 6) : Zc S (d + 1) jX6_begins [.ref 42, .int (nI i)] (zWof n ξ ρ) (fun r w => r = none ∧ w = zWof n (zu (zu (zu ξ 50 (1 + i) 0) 50 (7 + i) (-1)) 50 (13 + i) 0) ρ) := by
  refine Zc_in (q := (6, 0, 0, 1, 2, 0, 0, zk_X6_begins)) rfl (Nat.le_of_ble_eq_true rfl) (L := [_, _]) rfl ?_
  refine zr_aload_n 1 rfl rfl rfl trivial ?_
  refine zr_getf 4 rfl rfl rfl rfl rfl ?_
  refine zr_iconst 5 (x := 1) rfl rfl (by decide) ?_
  refine zr_iload_n 6 rfl rfl rfl ?_
  refine zr_iadd 7 rfl rfl ?_
  rw [show (1 : Int32) + nI i = nI (1 + i) from nI_add 1 i]
  refine zr_iconst 8 (x := 0) rfl rfl (by decide) ?_
  refine zr_iast 9 rfl rfl rfl (nI_clamp (by omega)) (vp_in_nI (by omega) (by omega)) (zW_set rfl) ?_
  refine zr_aload_n 10 rfl rfl rfl trivial ?_
  refine zr_getf 13 rfl rfl rfl rfl rfl ?_
  refine zr_bipush 15 (x := 7) rfl rfl (by decide) ?_
  refine zr_iload_n 16 rfl rfl rfl ?_
  refine zr_iadd 17 rfl rfl ?_
  rw [show (7 : Int32) + nI i = nI (7 + i) from nI_add 7 i]
  refine zr_iconst 18 (x := (-1)) rfl rfl (by decide) ?_
  refine zr_iast 19 rfl rfl rfl (nI_clamp (by omega)) (vp_in_nI (by omega) (by omega)) (zW_set rfl) ?_
  refine zr_aload_n 20 rfl rfl rfl trivial ?_
  refine zr_getf 23 rfl rfl rfl rfl rfl ?_
  refine zr_bipush 25 (x := 13) rfl rfl (by decide) ?_
  refine zr_iload_n 26 rfl rfl rfl ?_
  refine zr_iadd 27 rfl rfl ?_
  rw [show (13 : Int32) + nI i = nI (13 + i) from nI_add 13 i]
  refine zr_iconst 28 (x := 0) rfl rfl (by decide) ?_
  refine zr_iast 29 rfl rfl rfl (nI_clamp (by omega)) (vp_in_nI (by omega) (by omega)) (zW_set rfl) ?_
  refine zr_ret rfl rfl ?_
  exact ⟨rfl, rfl⟩
set_option maxRecDepth 20000 in
set_option maxHeartbeats 1000000 in
theorem c_MpartOf {S : Nat × (Nat → Int32)} {d n : Nat} {ξ : Nat → Nat → Int32} {ρ : zRho} {K : zCs} {ao : Nat} (h : zMR ξ ao K) (hK : zOK K) {i j : Nat} (hi : i < K.M) (hj : j < K.D) : Zc S (d + 1) jX6_partOf [.ref 42, .int (nI i), .int (nI j)] (zWof n ξ ρ) (fun r w => r = some (.int (K.p i 2 * K.dp j / 100)) ∧ w = zWof n ξ ρ) := by
  have hd3 := hK.d3
  have hm6 := hK.m6
  have ht60 := hK.t60
  have hao := h.ho
  refine Zc_in (q := (6, 0, 1, 2, 3, 0, 0, zk_X6_partOf)) rfl (Nat.le_of_ble_eq_true rfl) (L := [_, _, _]) rfl ?_
  refine zr_aload_n 1 rfl rfl rfl trivial ?_
  refine zr_getf 4 rfl rfl rfl rfl rfl ?_
  refine zr_iload_n 5 rfl rfl rfl ?_
  refine zr_iald 6 rfl rfl rfl (nI_clamp (by omega)) (vp_in_nI (by omega) (by omega)) ?_
  refine zr_aload_n 7 rfl rfl rfl trivial ?_
  refine zr_getf 10 rfl rfl rfl rfl rfl ?_
  refine zr_iload_n 11 rfl rfl rfl ?_
  refine zr_iald 12 rfl rfl rfl (nI_clamp (by omega)) (vp_in_nI (by omega) (by omega)) ?_
  refine zr_imul 13 rfl rfl ?_
  refine zr_bipush 15 (x := 100) rfl rfl (by decide) ?_
  refine zr_idiv 16 rfl rfl (by decide) ?_
  refine zr_iret rfl rfl ?_
  refine ⟨?_, rfl⟩
  rw [h.k2 hi, h.hdp j hj]
set_option maxRecDepth 20000 in
set_option maxHeartbeats 1000000 in
theorem c_Mleft {S : Nat × (Nat → Int32)} {d n : Nat} {ξ : Nat → Nat → Int32} {ρ : zRho} {K : zCs} {ao : Nat} (h : zMR ξ ao K) (hK : zOK K) {i : Nat} (hi : i < K.M) : Zc S (d + 2) jX6_left [.ref 42, .int (nI i)] (zWof n ξ ρ) (fun r w => r = some (.int (ξ 42 30 - K.p i 3)) ∧ w = zWof n ξ ρ) := by
  have hd3 := hK.d3
  have hm6 := hK.m6
  have ht60 := hK.t60
  have hao := h.ho
  refine Zc_in (q := (6, 0, 1, 1, 2, 0, 0, zk_X6_left)) rfl (Nat.le_of_ble_eq_true rfl) (L := [_, _]) rfl ?_
  refine zr_aload_n 1 rfl rfl rfl trivial ?_
  refine zr_getf 4 rfl rfl rfl rfl rfl ?_
  refine zr_aload_n 5 rfl rfl rfl trivial ?_
  refine zr_iconst 6 (x := 1) rfl rfl (by decide) ?_
  refine zr_iload_n 7 rfl rfl rfl ?_
  refine zr_iadd 8 rfl rfl ?_
  rw [show (1 : Int32) + nI i = nI (1 + i) from nI_add 1 i]
  refine zr_callv 11 (As := [_]) (u2 := (0, 0)) rfl rfl rfl rfl rfl rfl rfl (Nat.le_of_ble_eq_true rfl) (Nat.le_of_ble_eq_true rfl) (Nat.le_of_ble_eq_true rfl) rfl (c_Mits h.ha (by omega)) rfl (fun v2 w2 h8z => ?_)
  obtain ⟨rfl, rfl⟩ := h8z
  refine zr_isub 12 rfl rfl ?_
  refine zr_iret rfl rfl ?_
  refine ⟨?_, rfl⟩
  rw [h.k3 hi]
set_option maxRecDepth 20000 in
set_option maxHeartbeats 1000000 in
theorem c_MtoGo {S : Nat × (Nat → Int32)} {d n : Nat} {ξ : Nat → Nat → Int32} {ρ : zRho} {K : zCs} {ao : Nat} (h : zMR ξ ao K) (hK : zOK K) : Zc S (d + 2) jX6_toGo [.ref 42] (zWof n ξ ρ) (fun r w => r = some (.int (ztogoF (ξ 42 29) (nI K.T))) ∧ w = zWof n ξ ρ) := by
  have hd3 := hK.d3
  have hm6 := hK.m6
  have ht60 := hK.t60
  have hao := h.ho
  refine Zc_in (q := (6, 0, 1, 0, 2, 0, 0, zk_X6_toGo)) rfl (Nat.le_of_ble_eq_true rfl) (L := [_, _]) rfl ?_
  refine zr_aload_n 1 rfl rfl rfl trivial ?_
  refine zr_getf 4 rfl rfl rfl rfl rfl ?_
  refine zr_aload_n 5 rfl rfl rfl trivial ?_
  refine zr_iconst 6 (x := 0) rfl rfl (by decide) ?_
  rw [show (0 : Int32) = nI 0 from rfl]
  refine zr_callv 9 (As := [_]) (u2 := (0, 0)) rfl rfl rfl rfl rfl rfl rfl (Nat.le_of_ble_eq_true rfl) (Nat.le_of_ble_eq_true rfl) (Nat.le_of_ble_eq_true rfl) rfl (c_Mits (k := 0) h.ha (by omega)) rfl (fun v2 w2 h6z => ?_)
  obtain ⟨rfl, rfl⟩ := h6z
  rw [show ξ 50 (ao + 0) = nI K.T from h.ht]
  refine zr_isub 10 rfl rfl ?_
  refine zr_iconst 11 (x := 1) rfl rfl (by decide) ?_
  refine zr_iadd 12 rfl rfl ?_
  refine zr_istore_n 13 (L2 := [_, _]) rfl rfl (Nat.le_of_ble_eq_true rfl) (by first | exact trivial | exact rfl) rfl ?_
  refine zr_iload_n 14 rfl rfl rfl ?_
  refine zr_iconst 15 (x := 1) rfl rfl (by decide) ?_
  refine zr_icmp_ge 22 18 rfl rfl (by decide) (fun c15z => ?_) (fun c15z => ?_)
  · refine zr_iload_n 23 rfl rfl rfl ?_
    refine zr_iret rfl rfl ?_
    refine ⟨?_, rfl⟩
    unfold ztogoF
    by_cases q : 1 < ξ 42 29 - nI K.T + 1
    · rw [if_pos q]
    · rw [if_neg q]
      exact congrArg (fun z => some (Value.int z)) (Int32.le_antisymm (Int32.not_lt.mp q) c15z)
  · refine zr_iconst 19 (x := 1) rfl rfl (by decide) ?_
    refine zr_goto 23 rfl (by decide) ?_
    refine zr_iret rfl rfl ?_
    refine ⟨?_, rfl⟩
    unfold ztogoF
    rw [if_neg (fun q => c15z (Int32.le_of_lt q))]
set_option maxRecDepth 20000 in
set_option maxHeartbeats 1000000 in
theorem c_MisIll {S : Nat × (Nat → Int32)} {d n : Nat} {ξ : Nat → Nat → Int32} {ρ : zRho} {K : zCs} {ao : Nat} (h : zMR ξ ao K) (hK : zOK K) {i : Nat} (hi : i < K.M) : Zc S (d + 2) jX6_isIll [.ref 42, .int (nI i)] (zWof n ξ ρ) (fun r w => r = some (.int (zb (nI K.T < 30 ∧ K.p i 4 >>> (nI K.T &&& 31) &&& 1 = 1))) ∧ w = zWof n ξ ρ) := by
  have hd3 := hK.d3
  have hm6 := hK.m6
  have ht60 := hK.t60
  have hao := h.ho
  refine Zc_in (q := (6, 0, 3, 1, 2, 0, 0, zk_X6_isIll)) rfl (Nat.le_of_ble_eq_true rfl) (L := [_, _]) rfl ?_
  refine zr_aload_n 1 rfl rfl rfl trivial ?_
  refine zr_iconst 2 (x := 0) rfl rfl (by decide) ?_
  rw [show (0 : Int32) = nI 0 from rfl]
  refine zr_callv 5 (As := [_]) (u2 := (0, 0)) rfl rfl rfl rfl rfl rfl rfl (Nat.le_of_ble_eq_true rfl) (Nat.le_of_ble_eq_true rfl) (Nat.le_of_ble_eq_true rfl) rfl (c_Mits (k := 0) h.ha (by omega)) rfl (fun v2 w2 h2z => ?_)
  obtain ⟨rfl, rfl⟩ := h2z
  rw [show ξ 50 (ao + 0) = nI K.T from h.ht]
  refine zr_bipush 7 (x := 30) rfl rfl (by decide) ?_
  refine zr_icmp_ge 32 10 rfl rfl (by decide) (fun c7z => ?_) (fun c7z => ?_)
  · refine zr_iconst 33 (x := 0) rfl rfl (by decide) ?_
    refine zr_zret rfl rfl (Or.inl rfl) ?_
    refine ⟨?_, rfl⟩
    rw [zb_f (fun z => absurd z.1 (Int32.not_lt.mpr c7z))]
  · refine zr_aload_n 11 rfl rfl rfl trivial ?_
    refine zr_getf 14 rfl rfl rfl rfl rfl ?_
    refine zr_iload_n 15 rfl rfl rfl ?_
    refine zr_iald 16 rfl rfl rfl (nI_clamp (by omega)) (vp_in_nI (by omega) (by omega)) ?_
    refine zr_aload_n 17 rfl rfl rfl trivial ?_
    refine zr_iconst 18 (x := 0) rfl rfl (by decide) ?_
    rw [show (0 : Int32) = nI 0 from rfl]
    refine zr_callv 21 (As := [_]) (u2 := (0, 0)) rfl rfl rfl rfl rfl rfl rfl (Nat.le_of_ble_eq_true rfl) (Nat.le_of_ble_eq_true rfl) (Nat.le_of_ble_eq_true rfl) rfl (c_Mits (k := 0) h.ha (by omega)) rfl (fun v2 w2 h18z => ?_)
    obtain ⟨rfl, rfl⟩ := h18z
    rw [show ξ 50 (ao + 0) = nI K.T from h.ht, h.k4 hi]
    refine zr_ishr 22 rfl rfl ?_
    refine zr_iconst 23 (x := 1) rfl rfl (by decide) ?_
    refine zr_iand 24 rfl rfl ?_
    refine zr_iconst 25 (x := 1) rfl rfl (by decide) ?_
    refine zr_icmp_ne 32 28 rfl rfl (by decide) (fun c25z => ?_) (fun c25z => ?_)
    · refine zr_iconst 33 (x := 0) rfl rfl (by decide) ?_
      refine zr_zret rfl rfl (Or.inl rfl) ?_
      refine ⟨?_, rfl⟩
      rw [zb_f (fun z => c25z z.2)]
    · refine zr_iconst 29 (x := 1) rfl rfl (by decide) ?_
      refine zr_goto 33 rfl (by decide) ?_
      refine zr_zret rfl rfl (Or.inr rfl) ?_
      refine ⟨?_, rfl⟩
      rw [zb_t ⟨Int32.not_le.mp c7z, c25z⟩]
