abbrev zfgo (ξ ξ2 : Nat → Nat → Int32) : Prop := (∀ a, a ≠ 42 → ξ2 a = ξ a) ∧ ∀ k, k ≠ 29 → k ≠ 30 → ξ2 42 k = ξ 42 k
theorem zfgo.u {ξ ξ1 : Nat → Nat → Int32} (f : zfgo ξ ξ1) (k : Nat) (v : Int32) (hk : k = 29 ∨ k = 30) : zfgo ξ (zu ξ1 42 k v) :=
  ⟨fun a ha => by rw [zun ha]; exact f.1 a ha, fun j h1 h2 => by rw [zu_ne (Or.inr (by omega))]; exact f.2 j h1 h2⟩
theorem zfgo.mr {ξ ξ1 : Nat → Nat → Int32} {ao : Nat} {K : zCs} (f : zfgo ξ ξ1) (h : zMR ξ ao K) (hM : K.M ≤ 6) : zMR ξ1 ao K :=
  h.fr hM (fun b h1 h2 => f.1 b (by omega)) (fun k hk => f.2 k (by omega) (by omega)) (fun k _ _ => by rw [f.1 50 (by decide)])
theorem zMR.u42 {ξ : Nat → Nat → Int32} {ao : Nat} {K : zCs} (h : zMR ξ ao K) (hM : K.M ≤ 6) (k : Nat) (v : Int32) (hk : k ≠ 1 ∧ k ≠ 4 ∧ k ≠ 10 ∧ k ≠ 11) : zMR (zu ξ 42 k v) ao K :=
  h.fr hM (fun b h1 h2 => zun (by omega)) (fun j hj => zu_ne (Or.inr (by omega))) (fun k _ _ => by rw [zun (by decide)])
section ZMI
variable {S : Nat × (Nat → Int32)} {d n : Nat} {ξ : Nat → Nat → Int32} {ρ : zRho} {K : zCs} {ao i : Nat}
theorem c_MiT (h : zMR ξ ao K) : Zc S (d + 1) jX6_its [.ref 42, .int 0] (zWof n ξ ρ) (fun r w => r = some (.int (nI K.T)) ∧ w = zWof n ξ ρ) := by
  have := h.ho
  refine Zc_mono (d := d) (c_Mits (k := 0) h.ha (by omega)) ?_
  rintro r w ⟨rfl, rfl⟩
  exact ⟨by rw [show ξ 50 (ao + 0) = nI K.T from h.ht], rfl⟩
theorem c_Mi3 (h : zMR ξ ao K) (hM : K.M ≤ 6) (hi : i < K.M) : Zc S (d + 1) jX6_its [.ref 42, .int (1 + nI i)] (zWof n ξ ρ) (fun r w => r = some (.int (K.p i 3)) ∧ w = zWof n ξ ρ) := by
  have := h.ho
  rw [show (1 : Int32) + nI i = nI (1 + i) from nI_add 1 i]
  refine Zc_mono (d := d) (c_Mits h.ha (by omega)) ?_
  rintro r w ⟨rfl, rfl⟩
  exact ⟨by rw [h.k3 hi], rfl⟩
theorem c_Mi5 (h : zMR ξ ao K) (hM : K.M ≤ 6) (hi : i < K.M) : Zc S (d + 1) jX6_its [.ref 42, .int (7 + nI i)] (zWof n ξ ρ) (fun r w => r = some (.int (zhd (K.p i 5))) ∧ w = zWof n ξ ρ) := by
  have := h.ho
  rw [show (7 : Int32) + nI i = nI (7 + i) from nI_add 7 i]
  refine Zc_mono (d := d) (c_Mits h.ha (by omega)) ?_
  rintro r w ⟨rfl, rfl⟩
  exact ⟨by rw [h.k5 hi], rfl⟩
theorem c_Mi6 (h : zMR ξ ao K) (hM : K.M ≤ 6) (hi : i < K.M) : Zc S (d + 1) jX6_its [.ref 42, .int (13 + nI i)] (zWof n ξ ρ) (fun r w => r = some (.int (K.p i 6)) ∧ w = zWof n ξ ρ) := by
  have := h.ho
  rw [show (13 : Int32) + nI i = nI (13 + i) from nI_add 13 i]
  refine Zc_mono (d := d) (c_Mits h.ha (by omega)) ?_
  rintro r w ⟨rfl, rfl⟩
  exact ⟨by rw [h.k6 hi], rfl⟩
theorem c_Mb0 (h : zMR ξ ao K) (v : Int32) : Zc S (d + 1) jX6_becomes [.ref 42, .int 0, .int v] (zWof n ξ ρ) (fun r w => r = none ∧ w = zWof n (zu ξ 50 ao v) ρ) := by
  have := h.ho
  exact c_Mbecomes (k := 0) h.ha (by omega) v
theorem c_Mb (h : zMR ξ ao K) {c : Nat} (hc : c ≤ 13) (hM : K.M ≤ 6) (hi : i < K.M) (v : Int32) : Zc S (d + 1) jX6_becomes [.ref 42, .int (nI c + nI i), .int v] (zWof n ξ ρ) (fun r w => r = none ∧ w = zWof n (zu ξ 50 (ao + (c + i)) v) ρ) := by
  have := h.ho
  rw [nI_add]
  exact c_Mbecomes h.ha (by omega) v
end ZMI
theorem znm1 (x : Int32) : x + -1 = x - 1 := (Int32.sub_eq_add_neg x 1).symm
theorem zjm {j : Nat} (h : j < 1000) : nI j - 1 < 0 ↔ j = 0 := by
  rw [Int32.lt_iff_toInt_lt, zI0, zTsub (by rw [nI_toInt (by omega), zI1]; omega) (by rw [nI_toInt (by omega), zI1]; omega), nI_toInt (by omega), zI1]
  omega
theorem zgoal_no {dd dp : Nat → Int32} {work done day : Int32} {D j : Nat} (hj : j < D) (h : ¬ (day ≤ dd j ∧ done < work * dp j / 100)) : zgoalF dd dp work done day (D - j) j = zgoalF dd dp work done day (D - (j + 1)) (j + 1) := by
  rw [show D - j = D - (j + 1) + 1 by omega, zgoalF, if_neg h]
theorem zgoal_yes {dd dp : Nat → Int32} {work done day : Int32} {D j : Nat} (hj : j < D) (h : day ≤ dd j ∧ done < work * dp j / 100) : zgoalF dd dp work done day (D - j) j = j := by
  rw [show D - j = D - (j + 1) + 1 by omega, zgoalF, if_pos h]
def zCs.ghrs (K : zCs) (i : Nat) : Int32 := zghrsF K.dp K.D (K.p i 2) (K.gl i)
set_option maxRecDepth 20000 in
set_option maxHeartbeats 1000000 in
theorem c_MfindGoal {S : Nat × (Nat → Int32)} {d n : Nat} {ξ : Nat → Nat → Int32} {ρ : zRho} {K : zCs} {ao : Nat} (h : zMR ξ ao K) (hK : zOK K) {i : Nat} (hi : i < K.M) : Zc S (d + 2) jX6_findGoal [.ref 42, .int (nI i)] (zWof n ξ ρ) (fun r w => r = none ∧ ∃ ξ2, w = zWof n ξ2 ρ ∧ ξ2 42 29 = K.gday i ∧ ξ2 42 30 = K.ghrs i ∧ zfgo ξ ξ2) := by
  have hd3 := hK.d3
  have hm6 := hK.m6
  have ht60 := hK.t60
  have hao := h.ho
  refine Zc_in (q := (6, 0, 0, 1, 3, 0, 0, zk_X6_findGoal)) rfl (Nat.le_of_ble_eq_true rfl) (L := [_, _, _]) rfl ?_
  have key : ∀ (k : Nat) (j : Nat) (ξ1 : Nat → Nat → Int32), j = k → zMR ξ1 ao K → zfgo ξ ξ1 → j ≤ K.D → ξ1 42 29 = zgdayF K.dd K.D (K.law 0) (zgoalF K.dd K.dp (K.p i 2) (K.p i 3) (nI K.T) (K.D - j) j) → ξ1 42 30 = zghrsF K.dp K.D (K.p i 2) (zgoalF K.dd K.dp (K.p i 2) (K.p i 3) (nI K.T) (K.D - j) j) →  Zw S (Zc S (d + 1)) 6 false 0 zk_X6_findGoal (fun r w => r = none ∧ ∃ ξ2, w = zWof n ξ2 ρ ∧ ξ2 42 29 = K.gday i ∧ ξ2 42 30 = K.ghrs i ∧ zfgo ξ ξ2) (27, [some (.ref 42), some (.int (nI i)), some (.int (nI j - 1))], [], (0, 0), zWof n ξ1 ρ) := by
    intro k
    induction k using Nat.strongRecOn with
    | ind k ih =>
      intro j ξ1 hk m1 f1 hj e29 e30
      refine zr_iload_n 28 rfl rfl rfl ?_
      refine zr_if_lt 87 31 rfl rfl (by decide) (fun c28z => ?_) (fun c28z => ?_)
      · have hj0 : j = 0 := (zjm (by omega)).mp c28z
        refine zr_ret rfl rfl ?_
        exact ⟨rfl, ξ1, rfl, by rw [e29, hj0]; rfl, by rw [e30, hj0]; rfl, f1⟩
      · have hj0 : ¬ j = 0 := fun q => c28z ((zjm (by omega)).mpr q)
        obtain ⟨j2, rfl⟩ : ∃ z, j = z + 1 := ⟨j - 1, by omega⟩
        rw [nI_pred]
        have q44 : ξ1 44 j2 = K.dd j2 := m1.hdd j2 (by omega)
        refine zr_aload_n 32 rfl rfl rfl trivial ?_
        refine zr_getf 35 rfl rfl rfl rfl rfl ?_
        refine zr_iload_n 36 rfl rfl rfl ?_
        refine zr_iald 37 rfl rfl rfl (nI_clamp (by omega)) (vp_in_nI (by omega) (by omega)) ?_
        refine zr_aload_n 38 rfl rfl rfl trivial ?_
        refine zr_iconst 39 (x := 0) rfl rfl (by decide) ?_
        refine zr_callv 42 (As := [_]) (u2 := (0, 0)) rfl rfl rfl rfl rfl rfl rfl (Nat.le_of_ble_eq_true rfl) (Nat.le_of_ble_eq_true rfl) (Nat.le_of_ble_eq_true rfl) rfl (c_MiT m1) rfl (fun v2 w2 h39z => ?_)
        obtain ⟨rfl, rfl⟩ := h39z
        refine zr_icmp_lt 81 45 rfl rfl (by decide) (fun c42z => ?_) (fun c42z => ?_)
        · refine zr_iinc 84 (c0 := (-1)) (L2 := [_, _, _]) rfl rfl rfl (by first | exact trivial | exact rfl) (by decide) rfl ?_
          refine zr_goto 27 rfl (by decide) ?_
          rw [znm1]
          refine ih _ (by omega) j2 ξ1 rfl m1 f1 (by omega) ?_ ?_
          · rw [e29, zgoal_no (show j2 < K.D by omega) (fun q => absurd q.1 (by rw [← q44]; exact Int32.not_le.mpr c42z))]
          · rw [e30, zgoal_no (show j2 < K.D by omega) (fun q => absurd q.1 (by rw [← q44]; exact Int32.not_le.mpr c42z))]
        · refine zr_aload_n 46 rfl rfl rfl trivial ?_
          refine zr_iload_n 47 rfl rfl rfl ?_
          refine zr_iload_n 48 rfl rfl rfl ?_
          refine zr_callv 51 (As := [_, _]) (u2 := (0, 0)) rfl rfl rfl rfl rfl rfl rfl (Nat.le_of_ble_eq_true rfl) (Nat.le_of_ble_eq_true rfl) (Nat.le_of_ble_eq_true rfl) rfl (c_MpartOf m1 hK hi (show j2 < K.D by omega)) rfl (fun v2 w2 h48z => ?_)
          obtain ⟨rfl, rfl⟩ := h48z
          refine zr_aload_n 52 rfl rfl rfl trivial ?_
          refine zr_iconst 53 (x := 1) rfl rfl (by decide) ?_
          refine zr_iload_n 54 rfl rfl rfl ?_
          refine zr_iadd 55 rfl rfl ?_
          refine zr_callv 58 (As := [_]) (u2 := (0, 0)) rfl rfl rfl rfl rfl rfl rfl (Nat.le_of_ble_eq_true rfl) (Nat.le_of_ble_eq_true rfl) (Nat.le_of_ble_eq_true rfl) rfl (c_Mi3 m1 hm6 hi) rfl (fun v2 w2 h55z => ?_)
          obtain ⟨rfl, rfl⟩ := h55z
          refine zr_icmp_le 81 61 rfl rfl (by decide) (fun c58z => ?_) (fun c58z => ?_)
          · refine zr_iinc 84 (c0 := (-1)) (L2 := [_, _, _]) rfl rfl rfl (by first | exact trivial | exact rfl) (by decide) rfl ?_
            refine zr_goto 27 rfl (by decide) ?_
            rw [znm1]
            refine ih _ (by omega) j2 ξ1 rfl m1 f1 (by omega) ?_ ?_
            · rw [e29, zgoal_no (show j2 < K.D by omega) (fun q => absurd q.2 (Int32.not_lt.mpr c58z))]
            · rw [e30, zgoal_no (show j2 < K.D by omega) (fun q => absurd q.2 (Int32.not_lt.mpr c58z))]
          · refine zr_aload_n 62 rfl rfl rfl trivial ?_
            refine zr_aload_n 63 rfl rfl rfl trivial ?_
            refine zr_getf 66 rfl rfl rfl rfl rfl ?_
            refine zr_iload_n 67 rfl rfl rfl ?_
            refine zr_iald 68 rfl rfl rfl (nI_clamp (by omega)) (vp_in_nI (by omega) (by omega)) ?_
            refine zr_putf 71 rfl rfl rfl rfl (Nat.le_of_ble_eq_true rfl) rfl trivial (fun h => by cases h) (zW_set (k := 29) rfl) ?_
            refine zr_aload_n 72 rfl rfl rfl trivial ?_
            refine zr_aload_n 73 rfl rfl rfl trivial ?_
            refine zr_iload_n 74 rfl rfl rfl ?_
            refine zr_iload_n 75 rfl rfl rfl ?_
            have m2 := m1.u42 hm6 29 (ξ1 44 j2) (by decide)
            refine zr_callv 78 (As := [_, _]) (u2 := (0, 0)) rfl rfl rfl rfl rfl rfl rfl (Nat.le_of_ble_eq_true rfl) (Nat.le_of_ble_eq_true rfl) (Nat.le_of_ble_eq_true rfl) rfl (c_MpartOf m2 hK hi (show j2 < K.D by omega)) rfl (fun v2 w2 h75z => ?_)
            obtain ⟨rfl, rfl⟩ := h75z
            refine zr_putf 81 rfl rfl rfl rfl (Nat.le_of_ble_eq_true rfl) rfl trivial (fun h => by cases h) (zW_set (k := 30) rfl) ?_
            refine zr_iinc 84 (c0 := (-1)) (L2 := [_, _, _]) rfl rfl rfl (by first | exact trivial | exact rfl) (by decide) rfl ?_
            refine zr_goto 27 rfl (by decide) ?_
            rw [znm1]
            have yes := zgoal_yes (dd := K.dd) (dp := K.dp) (work := K.p i 2) (done := K.p i 3) (day := nI K.T) (show j2 < K.D by omega) ⟨by rw [← q44]; exact Int32.not_lt.mp c42z, Int32.not_le.mp c58z⟩
            refine ih _ (by omega) j2 _ rfl (m2.u42 hm6 30 _ (by decide)) ((f1.u 29 _ (Or.inl rfl)).u 30 _ (Or.inr rfl)) (by omega) ?_ ?_
            · rw [zu_ne (Or.inr (by decide)), zu_same, yes, zgdayF, if_pos (by omega), q44]
            · rw [zu_same, yes, zghrsF, if_pos (by omega)]
  refine zr_aload_n 1 rfl rfl rfl trivial ?_
  refine zr_aload_n 2 rfl rfl rfl trivial ?_
  refine zr_getf 5 rfl rfl rfl rfl rfl ?_
  refine zr_iconst 6 (x := 0) rfl rfl (by decide) ?_
  refine zr_iald 7 (i := 0) rfl rfl rfl (by decide) (by unfold vp_in; decide) ?_
  refine zr_putf 10 rfl rfl rfl rfl (Nat.le_of_ble_eq_true rfl) rfl trivial (fun h => by cases h) (zW_set (k := 29) rfl) ?_
  refine zr_aload_n 11 rfl rfl rfl trivial ?_
  refine zr_aload_n 12 rfl rfl rfl trivial ?_
  refine zr_getf 15 rfl rfl rfl rfl rfl ?_
  refine zr_iload_n 16 rfl rfl rfl ?_
  refine zr_iald 17 rfl rfl rfl (nI_clamp (by omega)) (vp_in_nI (by omega) (by omega)) ?_
  refine zr_putf 20 rfl rfl rfl rfl (Nat.le_of_ble_eq_true rfl) rfl trivial (fun h => by cases h) (zW_set (k := 30) rfl) ?_
  refine zr_aload_n 21 rfl rfl rfl trivial ?_
  refine zr_getf 24 rfl rfl rfl rfl rfl ?_
  refine zr_iconst 25 (x := 1) rfl rfl (by decide) ?_
  refine zr_isub 26 rfl rfl ?_
  refine zr_istore_n 27 (L2 := [_, _, _]) rfl rfl (Nat.le_of_ble_eq_true rfl) (by first | exact trivial | exact rfl) rfl ?_
  have e1 : ∀ v w, zu (zu ξ 42 29 v) 42 30 w 42 1 = nI K.D := fun v w => by
    rw [zu_ne (Or.inr (by decide)), zu_ne (Or.inr (by decide))]
    exact h.hd
  rw [e1]
  refine key _ K.D _ rfl ((h.u42 hm6 29 _ (by decide)).u42 hm6 30 _ (by decide)) (zfgo.u (zfgo.u ⟨fun _ _ => rfl, fun _ _ _ => rfl⟩ 29 _ (Or.inl rfl)) 30 _ (Or.inr rfl)) (Nat.le_refl _) ?_ ?_
  · rw [zu_ne (Or.inr (by decide)), zu_same, Nat.sub_self, zgoalF, zgdayF, if_neg (Nat.lt_irrefl _)]
    exact h.hl 0 (by decide)
  · rw [zu_same, Nat.sub_self, zgoalF, zghrsF, if_neg (Nat.lt_irrefl _)]
    exact h.k2 hi
set_option maxRecDepth 20000 in
set_option maxHeartbeats 1000000 in
theorem c_Mwould {S : Nat × (Nat → Int32)} {d n : Nat} {ξ : Nat → Nat → Int32} {ρ : zRho} {K : zCs} {ao : Nat} (h : zMR ξ ao K) (hK : zOK K) {i : Nat} (hi : i < K.M) (ht : ¬ ztogoF (ξ 42 29) (nI K.T) = 0) (ht1 : ¬ ztogoF (ξ 42 29) (nI K.T) + 1 = 0) : Zc S (d + 3) jX6_would [.ref 42, .int (nI i)] (zWof n ξ ρ) (fun r w => r = some (.int (zwantF (ξ 46 i) (ξ 47 i) (ξ 43 1) (nI K.T) (ξ 42 30 - K.p i 3) (ztogoF (ξ 42 29) (nI K.T)))) ∧ w = zWof n ξ ρ) := by
  have hd3 := hK.d3
  have hm6 := hK.m6
  have ht60 := hK.t60
  have hao := h.ho
  refine Zc_in (q := (6, 0, 1, 1, 2, 0, 0, zk_X6_would)) rfl (Nat.le_of_ble_eq_true rfl) (L := [_, _]) rfl ?_
  refine zr_aload_n 1 rfl rfl rfl trivial ?_
  refine zr_getf 4 rfl rfl rfl rfl rfl ?_
  refine zr_iload_n 5 rfl rfl rfl ?_
  refine zr_iald 6 rfl rfl rfl (nI_clamp (by omega)) (vp_in_nI (by omega) (by omega)) ?_
  by_cases s6_1 : ξ 46 i = 1
  · refine zr_tsw_in 40 0 rfl (by rw [s6_1]; decide) (by decide) rfl (by decide) ?_
    refine zr_aload_n 41 rfl rfl rfl trivial ?_
    refine zr_iload_n 42 rfl rfl rfl ?_
    refine zr_callv 45 (As := [_]) (u2 := (0, 0)) rfl rfl rfl rfl rfl rfl rfl (Nat.le_of_ble_eq_true rfl) (Nat.le_of_ble_eq_true rfl) (Nat.le_of_ble_eq_true rfl) rfl (c_Mleft h hK hi) rfl (fun v2 w2 h42z => ?_)
    obtain ⟨rfl, rfl⟩ := h42z
    refine zr_aload_n 46 rfl rfl rfl trivial ?_
    refine zr_getf 49 rfl rfl rfl rfl rfl ?_
    refine zr_iload_n 50 rfl rfl rfl ?_
    refine zr_iald 51 rfl rfl rfl (nI_clamp (by omega)) (vp_in_nI (by omega) (by omega)) ?_
    refine zr_iadd 52 rfl rfl ?_
    refine zr_aload_n 53 rfl rfl rfl trivial ?_
    refine zr_getf 56 rfl rfl rfl rfl rfl ?_
    refine zr_iconst 57 (x := 1) rfl rfl (by decide) ?_
    refine zr_iald 58 (i := 1) rfl rfl rfl (by decide) (by unfold vp_in; decide) ?_
    refine zr_aload_n 59 rfl rfl rfl trivial ?_
    refine zr_callv 62 (As := []) (u2 := (0, 0)) rfl rfl rfl rfl rfl rfl rfl (Nat.le_of_ble_eq_true rfl) (Nat.le_of_ble_eq_true rfl) (Nat.le_of_ble_eq_true rfl) rfl (c_MtoGo h hK) rfl (fun v2 w2 h59z => ?_)
    obtain ⟨rfl, rfl⟩ := h59z
    refine zr_iconst 63 (x := 1) rfl rfl (by decide) ?_
    refine zr_isub 64 rfl rfl ?_
    refine zr_imul 65 rfl rfl ?_
    refine zr_icmp_le 77 68 rfl rfl (by decide) (fun c65z => ?_) (fun c65z => ?_)
    · refine zr_iconst 78 (x := 0) rfl rfl (by decide) ?_
      refine zr_iret rfl rfl ?_
      refine ⟨?_, rfl⟩
      unfold zwantF
      rw [if_pos s6_1, if_pos c65z]
    · refine zr_aload_n 69 rfl rfl rfl trivial ?_
      refine zr_getf 72 rfl rfl rfl rfl rfl ?_
      refine zr_iconst 73 (x := 1) rfl rfl (by decide) ?_
      refine zr_iald 74 (i := 1) rfl rfl rfl (by decide) (by unfold vp_in; decide) ?_
      refine zr_goto 78 rfl (by decide) ?_
      refine zr_iret rfl rfl ?_
      refine ⟨?_, rfl⟩
      unfold zwantF
      rw [if_pos s6_1, if_neg c65z]
  by_cases s6_2 : ξ 46 i = 2
  · refine zr_tsw_in 111 1 rfl (by rw [s6_2]; decide) (by decide) rfl (by decide) ?_
    refine zr_iconst 112 (x := 2) rfl rfl (by decide) ?_
    refine zr_aload_n 113 rfl rfl rfl trivial ?_
    refine zr_iload_n 114 rfl rfl rfl ?_
    refine zr_callv 117 (As := [_]) (u2 := (0, 0)) rfl rfl rfl rfl rfl rfl rfl (Nat.le_of_ble_eq_true rfl) (Nat.le_of_ble_eq_true rfl) (Nat.le_of_ble_eq_true rfl) rfl (c_Mleft h hK hi) rfl (fun v2 w2 h114z => ?_)
    obtain ⟨rfl, rfl⟩ := h114z
    refine zr_imul 118 rfl rfl ?_
    refine zr_aload_n 119 rfl rfl rfl trivial ?_
    refine zr_callv 122 (As := []) (u2 := (0, 0)) rfl rfl rfl rfl rfl rfl rfl (Nat.le_of_ble_eq_true rfl) (Nat.le_of_ble_eq_true rfl) (Nat.le_of_ble_eq_true rfl) rfl (c_MtoGo h hK) rfl (fun v2 w2 h119z => ?_)
    obtain ⟨rfl, rfl⟩ := h119z
    refine zr_iconst 123 (x := 1) rfl rfl (by decide) ?_
    refine zr_iadd 124 rfl rfl ?_
    refine zr_idiv 125 rfl rfl (by assumption) ?_
    refine zr_iconst 126 (x := 1) rfl rfl (by decide) ?_
    refine zr_iadd 127 rfl rfl ?_
    refine zr_iret rfl rfl ?_
    refine ⟨?_, rfl⟩
    unfold zwantF
    rw [if_neg (show ¬ ξ 46 i = 1 by rw [s6_2]; decide), if_neg (show ¬ ξ 46 i = 3 by rw [s6_2]; decide), if_pos s6_2]
  by_cases s6_3 : ξ 46 i = 3
  · refine zr_tsw_in 79 2 rfl (by rw [s6_3]; decide) (by decide) rfl (by decide) ?_
    refine zr_aload_n 80 rfl rfl rfl trivial ?_
    refine zr_iload_n 81 rfl rfl rfl ?_
    refine zr_callv 84 (As := [_]) (u2 := (0, 0)) rfl rfl rfl rfl rfl rfl rfl (Nat.le_of_ble_eq_true rfl) (Nat.le_of_ble_eq_true rfl) (Nat.le_of_ble_eq_true rfl) rfl (c_Mleft h hK hi) rfl (fun v2 w2 h81z => ?_)
    obtain ⟨rfl, rfl⟩ := h81z
    refine zr_aload_n 85 rfl rfl rfl trivial ?_
    refine zr_getf 88 rfl rfl rfl rfl rfl ?_
    refine zr_iconst 89 (x := 1) rfl rfl (by decide) ?_
    refine zr_iald 90 (i := 1) rfl rfl rfl (by decide) (by unfold vp_in; decide) ?_
    refine zr_aload_n 91 rfl rfl rfl trivial ?_
    refine zr_callv 94 (As := []) (u2 := (0, 0)) rfl rfl rfl rfl rfl rfl rfl (Nat.le_of_ble_eq_true rfl) (Nat.le_of_ble_eq_true rfl) (Nat.le_of_ble_eq_true rfl) rfl (c_MtoGo h hK) rfl (fun v2 w2 h91z => ?_)
    obtain ⟨rfl, rfl⟩ := h91z
    refine zr_iconst 95 (x := 1) rfl rfl (by decide) ?_
    refine zr_isub 96 rfl rfl ?_
    refine zr_imul 97 rfl rfl ?_
    refine zr_icmp_le 109 100 rfl rfl (by decide) (fun c97z => ?_) (fun c97z => ?_)
    · refine zr_iconst 110 (x := 0) rfl rfl (by decide) ?_
      refine zr_iret rfl rfl ?_
      refine ⟨?_, rfl⟩
      unfold zwantF
      rw [if_neg (show ¬ ξ 46 i = 1 by rw [s6_3]; decide), if_pos s6_3, if_pos c97z]
    · refine zr_aload_n 101 rfl rfl rfl trivial ?_
      refine zr_getf 104 rfl rfl rfl rfl rfl ?_
      refine zr_iconst 105 (x := 1) rfl rfl (by decide) ?_
      refine zr_iald 106 (i := 1) rfl rfl rfl (by decide) (by unfold vp_in; decide) ?_
      refine zr_goto 110 rfl (by decide) ?_
      refine zr_iret rfl rfl ?_
      refine ⟨?_, rfl⟩
      unfold zwantF
      rw [if_neg (show ¬ ξ 46 i = 1 by rw [s6_3]; decide), if_pos s6_3, if_neg c97z]
  by_cases s6_4 : ξ 46 i = 4
  · refine zr_tsw_in 128 3 rfl (by rw [s6_4]; decide) (by decide) rfl (by decide) ?_
    refine zr_aload_n 129 rfl rfl rfl trivial ?_
    refine zr_iload_n 130 rfl rfl rfl ?_
    refine zr_callv 133 (As := [_]) (u2 := (0, 0)) rfl rfl rfl rfl rfl rfl rfl (Nat.le_of_ble_eq_true rfl) (Nat.le_of_ble_eq_true rfl) (Nat.le_of_ble_eq_true rfl) rfl (c_Mleft h hK hi) rfl (fun v2 w2 h130z => ?_)
    obtain ⟨rfl, rfl⟩ := h130z
    refine zr_aload_n 134 rfl rfl rfl trivial ?_
    refine zr_callv 137 (As := []) (u2 := (0, 0)) rfl rfl rfl rfl rfl rfl rfl (Nat.le_of_ble_eq_true rfl) (Nat.le_of_ble_eq_true rfl) (Nat.le_of_ble_eq_true rfl) rfl (c_MtoGo h hK) rfl (fun v2 w2 h134z => ?_)
    obtain ⟨rfl, rfl⟩ := h134z
    refine zr_iadd 138 rfl rfl ?_
    refine zr_iconst 139 (x := 1) rfl rfl (by decide) ?_
    refine zr_isub 140 rfl rfl ?_
    refine zr_aload_n 141 rfl rfl rfl trivial ?_
    refine zr_callv 144 (As := []) (u2 := (0, 0)) rfl rfl rfl rfl rfl rfl rfl (Nat.le_of_ble_eq_true rfl) (Nat.le_of_ble_eq_true rfl) (Nat.le_of_ble_eq_true rfl) rfl (c_MtoGo h hK) rfl (fun v2 w2 h141z => ?_)
    obtain ⟨rfl, rfl⟩ := h141z
    refine zr_idiv 145 rfl rfl (by assumption) ?_
    refine zr_iret rfl rfl ?_
    refine ⟨?_, rfl⟩
    unfold zwantF
    rw [if_neg (show ¬ ξ 46 i = 1 by rw [s6_4]; decide), if_neg (show ¬ ξ 46 i = 3 by rw [s6_4]; decide), if_neg (show ¬ ξ 46 i = 2 by rw [s6_4]; decide), if_pos s6_4]
  by_cases s6_5 : ξ 46 i = 5
  · refine zr_tsw_in 146 4 rfl (by rw [s6_5]; decide) (by decide) rfl (by decide) ?_
    refine zr_bipush 148 (x := 7) rfl rfl (by decide) ?_
    refine zr_aload_n 149 rfl rfl rfl trivial ?_
    refine zr_iconst 150 (x := 0) rfl rfl (by decide) ?_
    refine zr_callv 153 (As := [_]) (u2 := (0, 0)) rfl rfl rfl rfl rfl rfl rfl (Nat.le_of_ble_eq_true rfl) (Nat.le_of_ble_eq_true rfl) (Nat.le_of_ble_eq_true rfl) rfl (c_MiT h) rfl (fun v2 w2 h150z => ?_)
    obtain ⟨rfl, rfl⟩ := h150z
    refine zr_imul 154 rfl rfl ?_
    refine zr_aload_n 155 rfl rfl rfl trivial ?_
    refine zr_getf 158 rfl rfl rfl rfl rfl ?_
    refine zr_iload_n 159 rfl rfl rfl ?_
    refine zr_iald 160 rfl rfl rfl (nI_clamp (by omega)) (vp_in_nI (by omega) (by omega)) ?_
    refine zr_iadd 161 rfl rfl ?_
    refine zr_iconst 162 (x := 3) rfl rfl (by decide) ?_
    refine zr_irem 163 rfl rfl (by decide) ?_
    refine zr_if_ne 170 166 rfl rfl (by decide) (fun c163z => ?_) (fun c163z => ?_)
    · refine zr_aload_n 171 rfl rfl rfl trivial ?_
      refine zr_getf 174 rfl rfl rfl rfl rfl ?_
      refine zr_iload_n 175 rfl rfl rfl ?_
      refine zr_iald 176 rfl rfl rfl (nI_clamp (by omega)) (vp_in_nI (by omega) (by omega)) ?_
      refine zr_iconst 177 (x := 1) rfl rfl (by decide) ?_
      refine zr_iadd 178 rfl rfl ?_
      refine zr_iret rfl rfl ?_
      refine ⟨?_, rfl⟩
      unfold zwantF
      rw [Int32.mul_comm 7 (nI K.T)] at c163z
      rw [if_neg (show ¬ ξ 46 i = 1 by rw [s6_5]; decide), if_neg (show ¬ ξ 46 i = 3 by rw [s6_5]; decide), if_neg (show ¬ ξ 46 i = 2 by rw [s6_5]; decide), if_neg (show ¬ ξ 46 i = 4 by rw [s6_5]; decide), if_pos s6_5, if_neg c163z]
    · refine zr_iconst 167 (x := 0) rfl rfl (by decide) ?_
      refine zr_goto 178 rfl (by decide) ?_
      refine zr_iret rfl rfl ?_
      refine ⟨?_, rfl⟩
      unfold zwantF
      rw [Int32.mul_comm 7 (nI K.T)] at c163z
      rw [if_neg (show ¬ ξ 46 i = 1 by rw [s6_5]; decide), if_neg (show ¬ ξ 46 i = 3 by rw [s6_5]; decide), if_neg (show ¬ ξ 46 i = 2 by rw [s6_5]; decide), if_neg (show ¬ ξ 46 i = 4 by rw [s6_5]; decide), if_pos s6_5, if_pos c163z]
  refine zr_tsw_out 179 rfl (by have q0 := zne_i s6_1; have q1 := zne_i s6_2; have q2 := zne_i s6_3; have q3 := zne_i s6_4; have q4 := zne_i s6_5; rw [show (1 : Int32).toInt = 1 by decide] at q0; rw [show (2 : Int32).toInt = 2 by decide] at q1; rw [show (3 : Int32).toInt = 3 by decide] at q2; rw [show (4 : Int32).toInt = 4 by decide] at q3; rw [show (5 : Int32).toInt = 5 by decide] at q4; omega) (by decide) ?_
  refine zr_aload_n 180 rfl rfl rfl trivial ?_
  refine zr_getf 183 rfl rfl rfl rfl rfl ?_
  refine zr_iload_n 184 rfl rfl rfl ?_
  refine zr_iald 185 rfl rfl rfl (nI_clamp (by omega)) (vp_in_nI (by omega) (by omega)) ?_
  refine zr_iconst 186 (x := 1) rfl rfl (by decide) ?_
  refine zr_iadd 187 rfl rfl ?_
  refine zr_iret rfl rfl ?_
  refine ⟨?_, rfl⟩
  unfold zwantF
  rw [if_neg s6_1, if_neg s6_3, if_neg s6_2, if_neg s6_4, if_neg s6_5]
section ZMN
variable {v m r : Int32}
theorem zmin_a (h1 : r ≤ m) (h2 : r ≤ v) : zminI (zminI v m) r = r := by
  refine Int32.toInt_inj.mp ?_
  rw [zTmin, zTmin]
  have := Int32.le_iff_toInt_le.mp h1
  have := Int32.le_iff_toInt_le.mp h2
  omega
theorem zmin_b (h1 : r ≤ m) (h2 : ¬ r ≤ v) : zminI (zminI v m) r = v := by
  refine Int32.toInt_inj.mp ?_
  rw [zTmin, zTmin]
  have := Int32.le_iff_toInt_le.mp h1
  have := Int32.lt_iff_toInt_lt.mp (Int32.not_le.mp h2)
  omega
theorem zmin_c (h1 : ¬ r ≤ m) (h2 : m ≤ v) : zminI (zminI v m) r = m := by
  refine Int32.toInt_inj.mp ?_
  rw [zTmin, zTmin]
  have := Int32.lt_iff_toInt_lt.mp (Int32.not_le.mp h1)
  have := Int32.le_iff_toInt_le.mp h2
  omega
theorem zmin_d (h1 : ¬ r ≤ m) (h2 : ¬ m ≤ v) : zminI (zminI v m) r = v := by
  refine Int32.toInt_inj.mp ?_
  rw [zTmin, zTmin]
  have := Int32.lt_iff_toInt_lt.mp (Int32.not_le.mp h1)
  have := Int32.lt_iff_toInt_lt.mp (Int32.not_le.mp h2)
  omega
theorem zmin_0 (h1 : 0 ≤ m.toInt) (h2 : 0 ≤ r.toInt) : zminI (zminI 0 m) r = 0 := by
  refine Int32.toInt_inj.mp ?_
  rw [zTmin, zTmin, zI0]
  omega
end ZMN
def zCs.hrn (K : zCs) (i : Nat) : Int32 := if K.p i 5 = -9 then K.hrs i else 0
set_option maxRecDepth 20000 in
set_option maxHeartbeats 1000000 in
theorem c_Mhours {S : Nat × (Nat → Int32)} {d n : Nat} {ξ : Nat → Nat → Int32} {ρ : zRho} {K : zCs} {ao : Nat} (h : zMR ξ ao K) (hK : zOK K) {i : Nat} (hi : i < K.M) : Zc S (d + 4) jX6_hours [.ref 42, .int (nI i)] (zWof n ξ ρ) (fun r w => r = some (.int (K.hrn i)) ∧ ∃ ξ2, w = zWof n ξ2 ρ ∧ zfgo ξ ξ2 ∧ (K.p i 5 = -9 → ξ2 42 29 = K.gday i ∧ ξ2 42 30 = K.ghrs i)) := by
  have hd3 := hK.d3
  have hm6 := hK.m6
  have ht60 := hK.t60
  have hao := h.ho
  refine Zc_in (q := (6, 0, 1, 1, 5, 0, 0, zk_X6_hours)) rfl (Nat.le_of_ble_eq_true rfl) (L := [_, _, _, _, _]) rfl ?_
  refine zr_aload_n 1 rfl rfl rfl trivial ?_
  refine zr_bipush 3 (x := 7) rfl rfl (by decide) ?_
  refine zr_iload_n 4 rfl rfl rfl ?_
  refine zr_iadd 5 rfl rfl ?_
  refine zr_callv 8 (As := [_]) (u2 := (0, 0)) rfl rfl rfl rfl rfl rfl rfl (Nat.le_of_ble_eq_true rfl) (Nat.le_of_ble_eq_true rfl) (Nat.le_of_ble_eq_true rfl) rfl (c_Mi5 h hm6 hi) rfl (fun v2 w2 h5z => ?_)
  obtain ⟨rfl, rfl⟩ := h5z
  refine zr_if_lt 13 11 rfl rfl (by decide) (fun c8z => ?_) (fun c8z => ?_)
  · refine zr_aload_n 14 rfl rfl rfl trivial ?_
    refine zr_iload_n 15 rfl rfl rfl ?_
    refine zr_callv 18 (As := [_]) (u2 := (0, 0)) rfl rfl rfl rfl rfl rfl rfl (Nat.le_of_ble_eq_true rfl) (Nat.le_of_ble_eq_true rfl) (Nat.le_of_ble_eq_true rfl) rfl (c_MfindGoal h hK hi) rfl (fun v2 w2 h15z => ?_)
    obtain ⟨rfl, ξ1, rfl, g29, g30, f1⟩ := h15z
    have m1 := f1.mr h hm6
    have h9 : K.p i 5 = -9 := (zhd_neg (hK.h9 hi)).1.mp c8z
    have hz : ¬ ztogoF (K.gday i) (nI K.T) = 0 ∧ ¬ ztogoF (K.gday i) (nI K.T) + 1 = 0 := zgok_z hK.gok ht60 (K.gl i)
    rw [← g29] at hz
    refine zr_aload_n 19 rfl rfl rfl trivial ?_
    refine zr_iload_n 20 rfl rfl rfl ?_
    refine zr_callv 23 (As := [_]) (u2 := (0, 0)) rfl rfl rfl rfl rfl rfl rfl (Nat.le_of_ble_eq_true rfl) (Nat.le_of_ble_eq_true rfl) (Nat.le_of_ble_eq_true rfl) rfl (c_MisIll m1 hK hi) rfl (fun v2 w2 h20z => ?_)
    obtain ⟨rfl, rfl⟩ := h20z
    refine zr_if_eq 30 26 rfl rfl (by decide) (fun c23z => ?_) (fun c23z => ?_)
    · replace c23z := zb_0.mp c23z
      refine zr_aload_n 31 rfl rfl rfl trivial ?_
      refine zr_iload_n 32 rfl rfl rfl ?_
      refine zr_callv 35 (As := [_]) (u2 := (0, 0)) rfl rfl rfl rfl rfl rfl rfl (Nat.le_of_ble_eq_true rfl) (Nat.le_of_ble_eq_true rfl) (Nat.le_of_ble_eq_true rfl) rfl (c_Mwould m1 hK hi hz.1 hz.2) rfl (fun v2 w2 h32z => ?_)
      obtain ⟨rfl, rfl⟩ := h32z
      rw [m1.k0 hi, m1.k1 hi, m1.hl 1 (by decide), g30, g29]
      refine zr_istore_n 36 (L2 := [_, _, _, _, _]) rfl rfl (Nat.le_of_ble_eq_true rfl) (by first | exact trivial | exact rfl) rfl ?_
      refine zr_aload_n 37 rfl rfl rfl trivial ?_
      refine zr_getf 40 rfl rfl rfl rfl rfl ?_
      refine zr_iload_n 41 rfl rfl rfl ?_
      refine zr_iald 42 rfl rfl rfl (nI_clamp (by omega)) (vp_in_nI (by omega) (by omega)) ?_
      refine zr_aload_n 43 rfl rfl rfl trivial ?_
      refine zr_iconst 44 (x := 1) rfl rfl (by decide) ?_
      refine zr_iload_n 45 rfl rfl rfl ?_
      refine zr_iadd 46 rfl rfl ?_
      refine zr_callv 49 (As := [_]) (u2 := (0, 0)) rfl rfl rfl rfl rfl rfl rfl (Nat.le_of_ble_eq_true rfl) (Nat.le_of_ble_eq_true rfl) (Nat.le_of_ble_eq_true rfl) rfl (c_Mi3 m1 hm6 hi) rfl (fun v2 w2 h46z => ?_)
      obtain ⟨rfl, rfl⟩ := h46z
      rw [m1.k2 hi]
      refine zr_isub 50 rfl rfl ?_
      refine zr_istore_n 51 (L2 := [_, _, _, _, _]) rfl rfl (Nat.le_of_ble_eq_true rfl) (by first | exact trivial | exact rfl) rfl ?_
      refine zr_aload_n 52 rfl rfl rfl trivial ?_
      refine zr_getf 55 rfl rfl rfl rfl rfl ?_
      refine zr_iconst 56 (x := 1) rfl rfl (by decide) ?_
      refine zr_iald 57 (i := 1) rfl rfl rfl (by decide) (by unfold vp_in; decide) ?_
      rw [m1.hl 1 (by decide)]
      refine zr_iload_n 58 rfl rfl rfl ?_
      refine zr_icmp_ge 70 61 rfl rfl (by decide) (fun c58z => ?_) (fun c58z => ?_)
      · refine zr_iload_n 71 rfl rfl rfl ?_
        refine zr_istore 73 (L2 := [_, _, _, _, _]) rfl rfl (Nat.le_of_ble_eq_true rfl) (by first | exact trivial | exact rfl) rfl ?_
        refine zr_iload_n 74 rfl rfl rfl ?_
        refine zr_iload 76 rfl rfl rfl ?_
        refine zr_icmp_ge 83 79 rfl rfl (by decide) (fun c76z => ?_) (fun c76z => ?_)
        · refine zr_iload 85 rfl rfl rfl ?_
          refine zr_iret rfl rfl ?_
          refine ⟨?_, ξ1, rfl, f1, fun _ => ⟨g29, g30⟩⟩
          rw [show K.hrn i = K.hrs i from if_pos h9]
          have e : K.hrs i = zworkF K.dd K.dp K.D (K.law 0) (K.law 1) (K.p i 0) (K.p i 1) (K.p i 2) (K.p i 3) (nI K.T) := if_neg c23z
          rw [e]
          exact congrArg (fun z => some (Value.int z)) (zmin_a c58z c76z).symm
        · refine zr_iload_n 80 rfl rfl rfl ?_
          refine zr_goto 85 rfl (by decide) ?_
          refine zr_iret rfl rfl ?_
          refine ⟨?_, ξ1, rfl, f1, fun _ => ⟨g29, g30⟩⟩
          rw [show K.hrn i = K.hrs i from if_pos h9]
          have e : K.hrs i = zworkF K.dd K.dp K.D (K.law 0) (K.law 1) (K.p i 0) (K.p i 1) (K.p i 2) (K.p i 3) (nI K.T) := if_neg c23z
          rw [e]
          exact congrArg (fun z => some (Value.int z)) (zmin_b c58z c76z).symm
      · refine zr_aload_n 62 rfl rfl rfl trivial ?_
        refine zr_getf 65 rfl rfl rfl rfl rfl ?_
        refine zr_iconst 66 (x := 1) rfl rfl (by decide) ?_
        refine zr_iald 67 (i := 1) rfl rfl rfl (by decide) (by unfold vp_in; decide) ?_
        rw [m1.hl 1 (by decide)]
        refine zr_goto 71 rfl (by decide) ?_
        refine zr_istore 73 (L2 := [_, _, _, _, _]) rfl rfl (Nat.le_of_ble_eq_true rfl) (by first | exact trivial | exact rfl) rfl ?_
        refine zr_iload_n 74 rfl rfl rfl ?_
        refine zr_iload 76 rfl rfl rfl ?_
        refine zr_icmp_ge 83 79 rfl rfl (by decide) (fun c76z => ?_) (fun c76z => ?_)
        · refine zr_iload 85 rfl rfl rfl ?_
          refine zr_iret rfl rfl ?_
          refine ⟨?_, ξ1, rfl, f1, fun _ => ⟨g29, g30⟩⟩
          rw [show K.hrn i = K.hrs i from if_pos h9]
          have e : K.hrs i = zworkF K.dd K.dp K.D (K.law 0) (K.law 1) (K.p i 0) (K.p i 1) (K.p i 2) (K.p i 3) (nI K.T) := if_neg c23z
          rw [e]
          exact congrArg (fun z => some (Value.int z)) (zmin_c c58z c76z).symm
        · refine zr_iload_n 80 rfl rfl rfl ?_
          refine zr_goto 85 rfl (by decide) ?_
          refine zr_iret rfl rfl ?_
          refine ⟨?_, ξ1, rfl, f1, fun _ => ⟨g29, g30⟩⟩
          rw [show K.hrn i = K.hrs i from if_pos h9]
          have e : K.hrs i = zworkF K.dd K.dp K.D (K.law 0) (K.law 1) (K.p i 0) (K.p i 1) (K.p i 2) (K.p i 3) (nI K.T) := if_neg c23z
          rw [e]
          exact congrArg (fun z => some (Value.int z)) (zmin_d c58z c76z).symm
    · replace c23z := zb_n0.mp c23z
      refine zr_iconst 27 (x := 0) rfl rfl (by decide) ?_
      refine zr_goto 35 rfl (by decide) ?_
      refine zr_istore_n 36 (L2 := [_, _, _, _, _]) rfl rfl (Nat.le_of_ble_eq_true rfl) (by first | exact trivial | exact rfl) rfl ?_
      refine zr_aload_n 37 rfl rfl rfl trivial ?_
      refine zr_getf 40 rfl rfl rfl rfl rfl ?_
      refine zr_iload_n 41 rfl rfl rfl ?_
      refine zr_iald 42 rfl rfl rfl (nI_clamp (by omega)) (vp_in_nI (by omega) (by omega)) ?_
      refine zr_aload_n 43 rfl rfl rfl trivial ?_
      refine zr_iconst 44 (x := 1) rfl rfl (by decide) ?_
      refine zr_iload_n 45 rfl rfl rfl ?_
      refine zr_iadd 46 rfl rfl ?_
      refine zr_callv 49 (As := [_]) (u2 := (0, 0)) rfl rfl rfl rfl rfl rfl rfl (Nat.le_of_ble_eq_true rfl) (Nat.le_of_ble_eq_true rfl) (Nat.le_of_ble_eq_true rfl) rfl (c_Mi3 m1 hm6 hi) rfl (fun v2 w2 h46z => ?_)
      obtain ⟨rfl, rfl⟩ := h46z
      rw [m1.k2 hi]
      refine zr_isub 50 rfl rfl ?_
      refine zr_istore_n 51 (L2 := [_, _, _, _, _]) rfl rfl (Nat.le_of_ble_eq_true rfl) (by first | exact trivial | exact rfl) rfl ?_
      refine zr_aload_n 52 rfl rfl rfl trivial ?_
      refine zr_getf 55 rfl rfl rfl rfl rfl ?_
      refine zr_iconst 56 (x := 1) rfl rfl (by decide) ?_
      refine zr_iald 57 (i := 1) rfl rfl rfl (by decide) (by unfold vp_in; decide) ?_
      rw [m1.hl 1 (by decide)]
      refine zr_iload_n 58 rfl rfl rfl ?_
      refine zr_icmp_ge 70 61 rfl rfl (by decide) (fun c58z => ?_) (fun c58z => ?_)
      · refine zr_iload_n 71 rfl rfl rfl ?_
        refine zr_istore 73 (L2 := [_, _, _, _, _]) rfl rfl (Nat.le_of_ble_eq_true rfl) (by first | exact trivial | exact rfl) rfl ?_
        refine zr_iload_n 74 rfl rfl rfl ?_
        refine zr_iload 76 rfl rfl rfl ?_
        refine zr_icmp_ge 83 79 rfl rfl (by decide) (fun c76z => ?_) (fun c76z => ?_)
        · refine zr_iload 85 rfl rfl rfl ?_
          refine zr_iret rfl rfl ?_
          refine ⟨?_, ξ1, rfl, f1, fun _ => ⟨g29, g30⟩⟩
          rw [show K.hrn i = K.hrs i from if_pos h9]
          have e : K.hrs i = 0 := if_pos c23z
          have p0 := (hK.hp i hi).hs
          have q0 : 0 ≤ (K.p i 2 - K.p i 3).toInt := by
            have a1 : 0 ≤ (K.p i 3).toInt := p0.1
            have a2 : (K.p i 3).toInt ≤ (K.p i 2).toInt := p0.2.1
            have a3 := (hK.hp i hi).h2
            rw [zTsub (by omega) (by omega)]
            omega
          rw [e]
          exact congrArg (fun z => some (Value.int z)) ((zmin_a c58z c76z).symm.trans (zmin_0 (Int.le_trans (by decide) hK.l1.1) q0))
        · refine zr_iload_n 80 rfl rfl rfl ?_
          refine zr_goto 85 rfl (by decide) ?_
          refine zr_iret rfl rfl ?_
          refine ⟨?_, ξ1, rfl, f1, fun _ => ⟨g29, g30⟩⟩
          rw [show K.hrn i = K.hrs i from if_pos h9]
          have e : K.hrs i = 0 := if_pos c23z
          rw [e]
      · refine zr_aload_n 62 rfl rfl rfl trivial ?_
        refine zr_getf 65 rfl rfl rfl rfl rfl ?_
        refine zr_iconst 66 (x := 1) rfl rfl (by decide) ?_
        refine zr_iald 67 (i := 1) rfl rfl rfl (by decide) (by unfold vp_in; decide) ?_
        rw [m1.hl 1 (by decide)]
        refine zr_goto 71 rfl (by decide) ?_
        refine zr_istore 73 (L2 := [_, _, _, _, _]) rfl rfl (Nat.le_of_ble_eq_true rfl) (by first | exact trivial | exact rfl) rfl ?_
        refine zr_iload_n 74 rfl rfl rfl ?_
        refine zr_iload 76 rfl rfl rfl ?_
        refine zr_icmp_ge 83 79 rfl rfl (by decide) (fun c76z => ?_) (fun c76z => ?_)
        · refine zr_iload 85 rfl rfl rfl ?_
          refine zr_iret rfl rfl ?_
          refine ⟨?_, ξ1, rfl, f1, fun _ => ⟨g29, g30⟩⟩
          rw [show K.hrn i = K.hrs i from if_pos h9]
          have e : K.hrs i = 0 := if_pos c23z
          have p0 := (hK.hp i hi).hs
          have q0 : 0 ≤ (K.p i 2 - K.p i 3).toInt := by
            have a1 : 0 ≤ (K.p i 3).toInt := p0.1
            have a2 : (K.p i 3).toInt ≤ (K.p i 2).toInt := p0.2.1
            have a3 := (hK.hp i hi).h2
            rw [zTsub (by omega) (by omega)]
            omega
          rw [e]
          exact congrArg (fun z => some (Value.int z)) ((zmin_c c58z c76z).symm.trans (zmin_0 (Int.le_trans (by decide) hK.l1.1) q0))
        · refine zr_iload_n 80 rfl rfl rfl ?_
          refine zr_goto 85 rfl (by decide) ?_
          refine zr_iret rfl rfl ?_
          refine ⟨?_, ξ1, rfl, f1, fun _ => ⟨g29, g30⟩⟩
          rw [show K.hrn i = K.hrs i from if_pos h9]
          have e : K.hrs i = 0 := if_pos c23z
          rw [e]
  · refine zr_iconst 12 (x := 0) rfl rfl (by decide) ?_
    refine zr_iret rfl rfl ?_
    exact ⟨by rw [show K.hrn i = 0 from if_neg ((zhd_neg (hK.h9 hi)).2.mp (Int32.not_lt.mp c8z))], ξ, rfl, ⟨fun _ _ => rfl, fun _ _ _ => rfl⟩, fun q => absurd q ((zhd_neg (hK.h9 hi)).2.mp (Int32.not_lt.mp c8z))⟩
section ZMKL
variable {due pen bon mis hd ms : Int32}
theorem zsbi {a b : Int32} (h1 : 0 ≤ a.toInt ∧ a.toInt ≤ 100) (h2 : 0 ≤ b.toInt ∧ b.toInt ≤ 100) : a - b ≤ 0 ↔ a.toInt ≤ b.toInt := by
  rw [Int32.le_iff_toInt_le, zTsub (by omega) (by omega), zI0]
  omega
theorem zmk_le (h1 : 0 ≤ hd.toInt ∧ hd.toInt ≤ 100) (h2 : 0 ≤ due.toInt ∧ due.toInt ≤ 100) (c : hd - due ≤ 0) : 100 + (due - hd) * (if due - hd ≤ 0 then pen else bon) - ms * mis = 100 - mis * ms - bon * (hd - due) := by
  rw [zsbi h1 h2] at c
  by_cases q : due - hd ≤ 0
  · rw [if_pos q]
    rw [zsbi h2 h1] at q
    have e : hd = due := Int32.toInt_inj.mp (by omega)
    subst e
    grind
  · rw [if_neg q]
    grind
theorem zmk_gt (h1 : 0 ≤ hd.toInt ∧ hd.toInt ≤ 100) (h2 : 0 ≤ due.toInt ∧ due.toInt ≤ 100) (c : ¬ hd - due ≤ 0) : 100 + (due - hd) * (if due - hd ≤ 0 then pen else bon) - ms * mis = 100 - mis * ms - pen * (hd - due) := by
  rw [zsbi h1 h2] at c
  rw [if_pos ((zsbi h2 h1).mpr (by omega))]
  grind
theorem zcl_0 {m : Int32} (h : ¬ 0 ≤ m) : zclampF m = 0 := by
  have h2 := Int32.not_le.mp h
  unfold zclampF zminI
  rw [if_pos (Int32.lt_of_lt_of_le h2 (by decide)), if_neg (fun q => absurd (Int32.le_of_lt q) h)]
theorem zcl_m {m : Int32} (h : 0 ≤ m) (h2 : m ≤ 120) : zclampF m = m := by
  unfold zclampF
  have e : zminI 120 m = m := by
    unfold zminI
    by_cases q : m < 120
    · rw [if_pos q]
    · rw [if_neg q]
      exact Int32.le_antisymm (Int32.not_lt.mp q) h2
  rw [e]
  by_cases q : 0 < m
  · rw [if_pos q]
  · rw [if_neg q]
    exact Int32.le_antisymm h (Int32.not_lt.mp q)
theorem zcl_t {m : Int32} (h2 : ¬ m ≤ 120) : zclampF m = 120 := by
  unfold zclampF zminI
  rw [if_neg (fun q => h2 (Int32.le_of_lt q))]
  rfl
end ZMKL
set_option maxRecDepth 20000 in
set_option maxHeartbeats 1000000 in
theorem c_Mmark {S : Nat × (Nat → Int32)} {d n : Nat} {ξ : Nat → Nat → Int32} {ρ : zRho} {K : zCs} {ao : Nat} (h : zMR ξ ao K) (hK : zOK K) {i : Nat} (hi : i < K.M) : Zc S (d + 2) jX6_mark [.ref 42, .int (nI i)] (zWof n ξ ρ) (fun r w => r = some (.int (K.mk' i)) ∧ w = zWof n ξ ρ) := by
  have hd3 := hK.d3
  have hm6 := hK.m6
  have ht60 := hK.t60
  have hao := h.ho
  refine Zc_in (q := (6, 0, 1, 1, 5, 0, 0, zk_X6_mark)) rfl (Nat.le_of_ble_eq_true rfl) (L := [_, _, _, _, _]) rfl ?_
  refine zr_aload_n 1 rfl rfl rfl trivial ?_
  refine zr_bipush 3 (x := 7) rfl rfl (by decide) ?_
  refine zr_iload_n 4 rfl rfl rfl ?_
  refine zr_iadd 5 rfl rfl ?_
  refine zr_callv 8 (As := [_]) (u2 := (0, 0)) rfl rfl rfl rfl rfl rfl rfl (Nat.le_of_ble_eq_true rfl) (Nat.le_of_ble_eq_true rfl) (Nat.le_of_ble_eq_true rfl) rfl (c_Mi5 h hm6 hi) rfl (fun v2 w2 h5z => ?_)
  obtain ⟨rfl, rfl⟩ := h5z
  refine zr_istore_n 9 (L2 := [_, _, _, _, _]) rfl rfl (Nat.le_of_ble_eq_true rfl) (by first | exact trivial | exact rfl) rfl ?_
  refine zr_iload_n 10 rfl rfl rfl ?_
  refine zr_if_ge 15 13 rfl rfl (by decide) (fun c10z => ?_) (fun c10z => ?_)
  · have h9 : ¬ K.p i 5 = -9 := (zhd_neg (hK.h9 hi)).2.mp c10z
    rw [show zhd (K.p i 5) = K.p i 5 from if_neg h9]
    have b1 : 0 ≤ (K.p i 5).toInt ∧ (K.p i 5).toInt ≤ 100 := by
      rcases (hK.hp i hi).hs.2.2 with q | q
      · exact absurd q h9
      · have q1 : 0 ≤ (K.p i 5).toInt := q.2.1
        have q2 : (K.p i 5).toInt < 60 := q.2.2
        exact ⟨q1, by omega⟩
    have b2 : 0 ≤ (K.law 0).toInt ∧ (K.law 0).toInt ≤ 100 := by
      have := hK.l0
      omega
    refine zr_iload_n 16 rfl rfl rfl ?_
    refine zr_aload_n 17 rfl rfl rfl trivial ?_
    refine zr_getf 20 rfl rfl rfl rfl rfl ?_
    refine zr_iconst 21 (x := 0) rfl rfl (by decide) ?_
    refine zr_iald 22 (i := 0) rfl rfl rfl (by decide) (by unfold vp_in; decide) ?_
    rw [h.hl 0 (by decide)]
    refine zr_isub 23 rfl rfl ?_
    refine zr_istore_n 24 (L2 := [_, _, _, _, _]) rfl rfl (Nat.le_of_ble_eq_true rfl) (by first | exact trivial | exact rfl) rfl ?_
    refine zr_bipush 26 (x := 100) rfl rfl (by decide) ?_
    refine zr_aload_n 27 rfl rfl rfl trivial ?_
    refine zr_getf 30 rfl rfl rfl rfl rfl ?_
    refine zr_iconst 31 (x := 4) rfl rfl (by decide) ?_
    refine zr_iald 32 (i := 4) rfl rfl rfl (by decide) (by unfold vp_in; decide) ?_
    rw [h.hl 4 (by decide)]
    refine zr_aload_n 33 rfl rfl rfl trivial ?_
    refine zr_bipush 35 (x := 13) rfl rfl (by decide) ?_
    refine zr_iload_n 36 rfl rfl rfl ?_
    refine zr_iadd 37 rfl rfl ?_
    refine zr_callv 40 (As := [_]) (u2 := (0, 0)) rfl rfl rfl rfl rfl rfl rfl (Nat.le_of_ble_eq_true rfl) (Nat.le_of_ble_eq_true rfl) (Nat.le_of_ble_eq_true rfl) rfl (c_Mi6 h hm6 hi) rfl (fun v2 w2 h37z => ?_)
    obtain ⟨rfl, rfl⟩ := h37z
    refine zr_imul 41 rfl rfl ?_
    refine zr_isub 42 rfl rfl ?_
    refine zr_iload_n 43 rfl rfl rfl ?_
    refine zr_if_le 57 46 rfl rfl (by decide) (fun c43z => ?_) (fun c43z => ?_)
    · refine zr_aload_n 58 rfl rfl rfl trivial ?_
      refine zr_getf 61 rfl rfl rfl rfl rfl ?_
      refine zr_iconst 62 (x := 3) rfl rfl (by decide) ?_
      refine zr_iald 63 (i := 3) rfl rfl rfl (by decide) (by unfold vp_in; decide) ?_
      rw [h.hl 3 (by decide)]
      refine zr_iload_n 64 rfl rfl rfl ?_
      refine zr_imul 65 rfl rfl ?_
      refine zr_isub 66 rfl rfl ?_
      refine zr_istore 68 (L2 := [_, _, _, _, _]) rfl rfl (Nat.le_of_ble_eq_true rfl) (by first | exact trivial | exact rfl) rfl ?_
      refine zr_iload 70 rfl rfl rfl ?_
      refine zr_if_ge 77 73 rfl rfl (by decide) (fun c70z => ?_) (fun c70z => ?_)
      · refine zr_iload 79 rfl rfl rfl ?_
        refine zr_bipush 81 (x := 120) rfl rfl (by decide) ?_
        refine zr_icmp_le 89 84 rfl rfl (by decide) (fun c81z => ?_) (fun c81z => ?_)
        · refine zr_iload 91 rfl rfl rfl ?_
          refine zr_iret rfl rfl ?_
          refine ⟨?_, rfl⟩
          rw [show K.mk' i = _ from if_neg h9]
          rw [zmk_le b1 b2 c43z, zcl_m c70z c81z]
        · refine zr_bipush 86 (x := 120) rfl rfl (by decide) ?_
          refine zr_goto 91 rfl (by decide) ?_
          refine zr_iret rfl rfl ?_
          refine ⟨?_, rfl⟩
          rw [show K.mk' i = _ from if_neg h9]
          rw [zmk_le b1 b2 c43z, zcl_t c81z]
      · refine zr_iconst 74 (x := 0) rfl rfl (by decide) ?_
        refine zr_goto 91 rfl (by decide) ?_
        refine zr_iret rfl rfl ?_
        refine ⟨?_, rfl⟩
        rw [show K.mk' i = _ from if_neg h9]
        rw [zmk_le b1 b2 c43z, zcl_0 c70z]
    · refine zr_aload_n 47 rfl rfl rfl trivial ?_
      refine zr_getf 50 rfl rfl rfl rfl rfl ?_
      refine zr_iconst 51 (x := 2) rfl rfl (by decide) ?_
      refine zr_iald 52 (i := 2) rfl rfl rfl (by decide) (by unfold vp_in; decide) ?_
      rw [h.hl 2 (by decide)]
      refine zr_iload_n 53 rfl rfl rfl ?_
      refine zr_imul 54 rfl rfl ?_
      refine zr_goto 65 rfl (by decide) ?_
      refine zr_isub 66 rfl rfl ?_
      refine zr_istore 68 (L2 := [_, _, _, _, _]) rfl rfl (Nat.le_of_ble_eq_true rfl) (by first | exact trivial | exact rfl) rfl ?_
      refine zr_iload 70 rfl rfl rfl ?_
      refine zr_if_ge 77 73 rfl rfl (by decide) (fun c70z => ?_) (fun c70z => ?_)
      · refine zr_iload 79 rfl rfl rfl ?_
        refine zr_bipush 81 (x := 120) rfl rfl (by decide) ?_
        refine zr_icmp_le 89 84 rfl rfl (by decide) (fun c81z => ?_) (fun c81z => ?_)
        · refine zr_iload 91 rfl rfl rfl ?_
          refine zr_iret rfl rfl ?_
          refine ⟨?_, rfl⟩
          rw [show K.mk' i = _ from if_neg h9]
          rw [zmk_gt b1 b2 c43z, zcl_m c70z c81z]
        · refine zr_bipush 86 (x := 120) rfl rfl (by decide) ?_
          refine zr_goto 91 rfl (by decide) ?_
          refine zr_iret rfl rfl ?_
          refine ⟨?_, rfl⟩
          rw [show K.mk' i = _ from if_neg h9]
          rw [zmk_gt b1 b2 c43z, zcl_t c81z]
      · refine zr_iconst 74 (x := 0) rfl rfl (by decide) ?_
        refine zr_goto 91 rfl (by decide) ?_
        refine zr_iret rfl rfl ?_
        refine ⟨?_, rfl⟩
        rw [show K.mk' i = _ from if_neg h9]
        rw [zmk_gt b1 b2 c43z, zcl_0 c70z]
  · refine zr_iconst 14 (x := (-1)) rfl rfl (by decide) ?_
    refine zr_iret rfl rfl ?_
    refine ⟨?_, rfl⟩
    rw [show K.mk' i = -1 from if_pos ((zhd_neg (hK.h9 hi)).1.mp (Int32.not_le.mp c10z))]
