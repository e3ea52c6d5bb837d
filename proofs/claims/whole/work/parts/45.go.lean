abbrev zfg (ao : Nat) (ξ ξ2 : Nat → Nat → Int32) : Prop := (∀ a, a ≠ 42 → a ≠ 50 → ξ2 a = ξ a) ∧ (∀ k, k ≠ 29 → k ≠ 30 → ξ2 42 k = ξ 42 k) ∧ ∀ k, (k < ao ∨ ao + 19 ≤ k) → ξ2 50 k = ξ 50 k
theorem zfg.rf (ao : Nat) (ξ : Nat → Nat → Int32) : zfg ao ξ ξ := ⟨fun _ _ _ => rfl, fun _ _ _ => rfl, fun _ _ => rfl⟩
theorem zfg.go {ao : Nat} {ξ ξ1 ξ2 : Nat → Nat → Int32} (f : zfg ao ξ ξ1) (g : zfgo ξ1 ξ2) : zfg ao ξ ξ2 :=
  ⟨fun a h1 h2 => by rw [g.1 a h1]; exact f.1 a h1 h2, fun k h1 h2 => by rw [g.2 k h1 h2]; exact f.2.1 k h1 h2, fun k h => by rw [g.1 50 (by decide)]; exact f.2.2 k h⟩
theorem zfg.u {ao : Nat} {ξ ξ1 : Nat → Nat → Int32} (f : zfg ao ξ ξ1) {k : Nat} (h1 : ao ≤ k) (h2 : k < ao + 19) (v : Int32) : zfg ao ξ (zu ξ1 50 k v) :=
  ⟨fun a q1 q2 => by rw [zun q2]; exact f.1 a q1 q2, fun j q1 q2 => by rw [zun (by decide)]; exact f.2.1 j q1 q2, fun j q => by rw [zu_ne (Or.inr (by omega))]; exact f.2.2 j q⟩
theorem zfg.tr {ao : Nat} {ξ ξ1 ξ2 : Nat → Nat → Int32} (f : zfg ao ξ ξ1) (g : zfg ao ξ1 ξ2) : zfg ao ξ ξ2 :=
  ⟨fun a h1 h2 => by rw [g.1 a h1 h2]; exact f.1 a h1 h2, fun k h1 h2 => by rw [g.2.1 k h1 h2]; exact f.2.1 k h1 h2, fun k h => by rw [g.2.2 k h]; exact f.2.2 k h⟩
def zCs.gd (K : zCs) (i : Nat) : zCs := (K.D, K.M, K.T, K.z, K.law, K.dd, K.dp, fun j => if j < i then zput3 (K.p j) (K.dy j K.T (K.s j)) else K.p j)
theorem zgd_p (K : zCs) (i : Nat) : (K.gd i).p i = K.p i := if_neg (Nat.lt_irrefl _)
theorem zgd_n (K : zCs) (i : Nat) : (K.gd i).hrn i = K.hrn i := by
  have e := zgd_p K i
  unfold zCs.hrn zCs.hrs
  rw [e]
  rfl
theorem zOK.gd {K : zCs} (h : zOK K) (hT : K.T < 60) (i : Nat) : zOK (K.gd i) := ⟨h.d3, h.m6, h.t60, h.l0, h.l1, h.l2, h.l3, h.l4, h.hdd, h.hds, h.hdp, fun j hj => by
  show zpOK (if j < i then zput3 (K.p j) (K.dy j K.T (K.s j)) else K.p j)
  by_cases q : j < i
  · rw [if_pos q]
    exact (h.hp j hj).put3 (zdayS_ok h.gok h.hdp (h.hp j hj).h2 (h.hp j hj).h1 h.l1 hT (h.hp j hj).hs)
  · rw [if_neg q]
    exact h.hp j hj⟩
theorem zmissF_same {dd dp : Nat → Int32} {work done day : Int32} : ∀ (n i : Nat) (m : Int32), (∀ j, i ≤ j → j < i + n → ¬ done < work * dp j / 100) → zmissF dd dp work done day n i m = m
  | 0, _, _, _ => rfl
  | n + 1, i, m, h => by
    rw [zmissF, if_neg (fun q => h i (Nat.le_refl _) (by omega) q.2)]
    exact zmissF_same n (i + 1) m (fun j h1 h2 => h j (by omega) (by omega))
theorem zmiss_no {dd dp : Nat → Int32} {work done day m : Int32} {D j : Nat} (hj : j < D) (h : ¬ (dd j = day ∧ done < work * dp j / 100)) : zmissF dd dp work done day (D - j) j m = zmissF dd dp work done day (D - (j + 1)) (j + 1) m := by
  rw [show D - j = D - (j + 1) + 1 by omega, zmissF, if_neg h]
theorem zmiss_yes {dd dp : Nat → Int32} {work done day m : Int32} {D j : Nat} (hj : j < D) (h : dd j = day ∧ done < work * dp j / 100) : zmissF dd dp work done day (D - j) j m = zmissF dd dp work done day (D - (j + 1)) (j + 1) (m + 1) := by
  rw [show D - j = D - (j + 1) + 1 by omega, zmissF, if_pos h]
section ZDY
variable {K : zCs} {i : Nat}
theorem zdy_A (hK : zOK K) (hi : i < K.M) (h9 : ¬ K.p i 5 = -9) : K.dy i K.T (K.s i) = (K.p i 3 + 0, K.p i 5, zmissF K.dd K.dp (K.p i 2) (K.p i 3 + 0) (nI K.T) K.D 0 (K.p i 6)) := by
  have e : K.dy i K.T (K.s i) = K.s i := if_neg h9
  rw [e, Int32.add_zero, zmissF_same]
  · rfl
  · intro j _ hj q
    rcases (hK.hp i hi).hs.2.2 with q9 | ⟨q1, _⟩
    · exact h9 q9
    · have a := (zpart_to (hK.hp i hi).h2 (hK.hdp j (by omega))).2.2
      have b := Int32.lt_iff_toInt_lt.mp q
      have c : K.p i 3 = K.p i 2 := q1
      rw [c] at b
      omega
theorem zhrs_b (hK : zOK K) (hi : i < K.M) : 0 ≤ (K.hrs i).toInt ∧ (K.hrs i).toInt ≤ (K.p i 2).toInt - (K.p i 3).toInt := by
  have p0 := (hK.hp i hi).hs
  have t := hK.t60
  exact zhrs_to hK.gok hK.hdp (hK.hp i hi).h2 (hK.hp i hi).h1 hK.l1 (by rw [nI_toInt (by omega)]; omega) p0.1 p0.2.1
theorem zhrs_s (hK : zOK K) (hi : i < K.M) : K.p i 3 + K.hrs i ≤ K.p i 2 := by
  have p0 := (hK.hp i hi).hs
  have a1 : 0 ≤ (K.p i 3).toInt := p0.1
  have a2 : (K.p i 3).toInt ≤ (K.p i 2).toInt := p0.2.1
  have a3 := (hK.hp i hi).h2
  have q := zhrs_b hK hi
  rw [Int32.le_iff_toInt_le, zTadd (by omega) (by omega)]
  omega
theorem zdy_B (hK : zOK K) (hi : i < K.M) (h9 : K.p i 5 = -9) (hne : ¬ K.p i 3 + K.hrs i = K.p i 2) : K.dy i K.T (K.s i) = (K.p i 3 + K.hrs i, K.p i 5, zmissF K.dd K.dp (K.p i 2) (K.p i 3 + K.hrs i) (nI K.T) K.D 0 (K.p i 6)) := by
  have e : K.dy i K.T (K.s i) = (K.p i 3 + K.hrs i, (if K.p i 2 ≤ K.p i 3 + K.hrs i then nI K.T else -9), zmissF K.dd K.dp (K.p i 2) (K.p i 3 + K.hrs i) (nI K.T) K.D 0 (K.p i 6)) := if_pos h9
  rw [e, if_neg (fun q => hne (Int32.le_antisymm (zhrs_s hK hi) q)), h9]
theorem zdy_C (h9 : K.p i 5 = -9) (heq : K.p i 3 + K.hrs i = K.p i 2) : K.dy i K.T (K.s i) = (K.p i 3 + K.hrs i, nI K.T, zmissF K.dd K.dp (K.p i 2) (K.p i 3 + K.hrs i) (nI K.T) K.D 0 (K.p i 6)) := by
  have e : K.dy i K.T (K.s i) = (K.p i 3 + K.hrs i, (if K.p i 2 ≤ K.p i 3 + K.hrs i then nI K.T else -9), zmissF K.dd K.dp (K.p i 2) (K.p i 3 + K.hrs i) (nI K.T) K.D 0 (K.p i 6)) := if_pos h9
  rw [e, if_pos (by rw [heq]; exact Int32.le_refl _)]
end ZDY
theorem zMR.w3 {ξ : Nat → Nat → Int32} {ao i : Nat} {K : zCs} {v3 v5 v6 : Int32} (h : zMR ξ ao (K.ws i (v3, v5, v6))) (hM : K.M ≤ 6) (hi : i < K.M) (v : Int32) : zMR (zu ξ 50 (ao + (1 + i)) v) ao (K.ws i (v, v5, v6)) := (h.sp3 hM hi v).cg (fun j hj k hk => by
  show (if j = i then upd (if i = i then zput3 (K.p i) (v3, v5, v6) else K.p i) 3 v else (if j = i then zput3 (K.p i) (v3, v5, v6) else K.p j)) k = (if j = i then zput3 (K.p i) (v, v5, v6) else K.p j) k
  by_cases e : j = i
  · rw [if_pos e, if_pos rfl, if_pos e]
    rcases (by omega : k = 0 ∨ k = 1 ∨ k = 2 ∨ k = 3 ∨ k = 4 ∨ k = 5 ∨ k = 6) with rfl | rfl | rfl | rfl | rfl | rfl | rfl <;> rfl
  · rw [if_neg e, if_neg e, if_neg e])
theorem zMR.w5 {ξ : Nat → Nat → Int32} {ao i : Nat} {K : zCs} {v3 v5 v6 : Int32} (h : zMR ξ ao (K.ws i (v3, v5, v6))) (hM : K.M ≤ 6) (hi : i < K.M) {u v : Int32} (hv : zhd u = v) : zMR (zu ξ 50 (ao + (7 + i)) v) ao (K.ws i (v3, u, v6)) := (h.sp5 hM hi hv).cg (fun j hj k hk => by
  show (if j = i then upd (if i = i then zput3 (K.p i) (v3, v5, v6) else K.p i) 5 u else (if j = i then zput3 (K.p i) (v3, v5, v6) else K.p j)) k = (if j = i then zput3 (K.p i) (v3, u, v6) else K.p j) k
  by_cases e : j = i
  · rw [if_pos e, if_pos rfl, if_pos e]
    rcases (by omega : k = 0 ∨ k = 1 ∨ k = 2 ∨ k = 3 ∨ k = 4 ∨ k = 5 ∨ k = 6) with rfl | rfl | rfl | rfl | rfl | rfl | rfl <;> rfl
  · rw [if_neg e, if_neg e, if_neg e])
theorem zMR.w6 {ξ : Nat → Nat → Int32} {ao i : Nat} {K : zCs} {v3 v5 v6 : Int32} (h : zMR ξ ao (K.ws i (v3, v5, v6))) (hM : K.M ≤ 6) (hi : i < K.M) (v : Int32) : zMR (zu ξ 50 (ao + (13 + i)) v) ao (K.ws i (v3, v5, v)) := (h.sp6 hM hi v).cg (fun j hj k hk => by
  show (if j = i then upd (if i = i then zput3 (K.p i) (v3, v5, v6) else K.p i) 6 v else (if j = i then zput3 (K.p i) (v3, v5, v6) else K.p j)) k = (if j = i then zput3 (K.p i) (v3, v5, v) else K.p j) k
  by_cases e : j = i
  · rw [if_pos e, if_pos rfl, if_pos e]
    rcases (by omega : k = 0 ∨ k = 1 ∨ k = 2 ∨ k = 3 ∨ k = 4 ∨ k = 5 ∨ k = 6) with rfl | rfl | rfl | rfl | rfl | rfl | rfl <;> rfl
  · rw [if_neg e, if_neg e, if_neg e])
theorem zMR.self {ξ : Nat → Nat → Int32} {ao i : Nat} {K : zCs} (h : zMR ξ ao (K.gd i)) : zMR ξ ao ((K.gd i).ws i (K.p i 3, K.p i 5, K.p i 6)) := h.cg (fun j hj k hk => by
  show (K.gd i).p j k = (if j = i then zput3 ((K.gd i).p i) (K.p i 3, K.p i 5, K.p i 6) else (K.gd i).p j) k
  by_cases e : j = i
  · subst e
    rw [if_pos rfl, zgd_p]
    rcases (by omega : k = 0 ∨ k = 1 ∨ k = 2 ∨ k = 3 ∨ k = 4 ∨ k = 5 ∨ k = 6) with rfl | rfl | rfl | rfl | rfl | rfl | rfl <;> rfl
  · rw [if_neg e])
theorem zMR.step {ξ : Nat → Nat → Int32} {ao i : Nat} {K : zCs} {s : Int32 × Int32 × Int32} (h : zMR ξ ao ((K.gd i).ws i s)) (e : K.dy i K.T (K.s i) = s) : zMR ξ ao (K.gd (i + 1)) := h.cg (fun j hj k hk => by
  show (if j = i then zput3 ((K.gd i).p i) s else (if j < i then zput3 (K.p j) (K.dy j K.T (K.s j)) else K.p j)) k = (if j < i + 1 then zput3 (K.p j) (K.dy j K.T (K.s j)) else K.p j) k
  by_cases q : j = i
  · subst q
    rw [if_pos rfl, zgd_p, if_pos (Nat.lt_succ_self _), e]
  · by_cases q2 : j < i
    · rw [if_neg q, if_pos q2, if_pos (by omega)]
    · rw [if_neg q, if_neg q2, if_neg (by omega)])
theorem zMR.gd0 {ξ : Nat → Nat → Int32} {ao : Nat} {K : zCs} (h : zMR ξ ao K) : zMR ξ ao (K.gd 0) := h.cg (fun j _ k _ => by rw [if_neg (Nat.not_lt_zero _)])
theorem zMR.dayend {ξ : Nat → Nat → Int32} {ao : Nat} {K : zCs} (h : zMR ξ ao (K.gd K.M)) (hM : K.M ≤ 6) : zMR (zu ξ 50 ao (nI K.T + 1)) ao (K.go (K.T + 1)) := by
  have e : ∀ i, i < K.M → (K.gd K.M).p i = zput3 (K.p i) (K.lv i (K.T + 1 - K.T) K.T) := fun i hi => by
    rw [Nat.add_sub_cancel_left]
    exact if_pos hi
  obtain ⟨a1, a2, a3, a4, a5, a6, a7, a8, a9, a10, a11⟩ := h
  refine ⟨a1, a2, a3, a4, by rw [zu_same, nI_1]; rfl, a6, a7, a8, a9, fun j hj => ?_, fun j hj => ?_⟩
  · have q := a10 j hj
    rw [e j hj] at q
    exact q
  · have hj2 : j < K.M := hj
    rw [zu_ne (Or.inr (by omega)), zu_ne (Or.inr (by omega)), zu_ne (Or.inr (by omega))]
    have q := a11 j hj
    rw [e j hj] at q
    exact q
section ZMI
variable {S : Nat × (Nat → Int32)} {d n : Nat} {ξ : Nat → Nat → Int32} {ρ : zRho} {K : zCs} {ao i : Nat} {v3 v5 v6 : Int32}
theorem c_Mw3 (h : zMR ξ ao (K.ws i (v3, v5, v6))) (hM : K.M ≤ 6) (hi : i < K.M) : Zc S (d + 1) jX6_its [.ref 42, .int (1 + nI i)] (zWof n ξ ρ) (fun r w => r = some (.int v3) ∧ w = zWof n ξ ρ) := by
  refine Zc_mono (d := d) (c_Mi3 h hM hi) ?_
  rintro r w ⟨rfl, rfl⟩
  exact ⟨by rw [zws_3], rfl⟩
theorem c_Mw5 (h : zMR ξ ao (K.ws i (v3, v5, v6))) (hM : K.M ≤ 6) (hi : i < K.M) : Zc S (d + 1) jX6_its [.ref 42, .int (7 + nI i)] (zWof n ξ ρ) (fun r w => r = some (.int (zhd v5)) ∧ w = zWof n ξ ρ) := by
  refine Zc_mono (d := d) (c_Mi5 h hM hi) ?_
  rintro r w ⟨rfl, rfl⟩
  exact ⟨by rw [zws_5], rfl⟩
theorem c_Mw6 (h : zMR ξ ao (K.ws i (v3, v5, v6))) (hM : K.M ≤ 6) (hi : i < K.M) : Zc S (d + 1) jX6_its [.ref 42, .int (13 + nI i)] (zWof n ξ ρ) (fun r w => r = some (.int v6) ∧ w = zWof n ξ ρ) := by
  refine Zc_mono (d := d) (c_Mi6 h hM hi) ?_
  rintro r w ⟨rfl, rfl⟩
  exact ⟨by rw [zws_6], rfl⟩
end ZMI
set_option maxRecDepth 20000 in
set_option maxHeartbeats 1000000 in
theorem c_Mpo {S : Nat × (Nat → Int32)} {d n : Nat} {ξ : Nat → Nat → Int32} {ρ : zRho} {K : zCs} {ao : Nat} (h : zMR ξ ao K) (hd3 : K.D ≤ 3) (hm6 : K.M ≤ 6) {i j : Nat} (hi : i < K.M) (hj : j < K.D) : Zc S (d + 1) jX6_partOf [.ref 42, .int (nI i), .int (nI j)] (zWof n ξ ρ) (fun r w => r = some (.int (K.p i 2 * K.dp j / 100)) ∧ w = zWof n ξ ρ) := by
  refine Zc_in (q := (6, 0, 1, 2, 3, 0, 0, zk_X6_partOf)) rfl (Nat.le_of_ble_eq_true rfl) (L := [_, _, _]) rfl ?_
  refine zr_aload_n 1 rfl rfl rfl trivial ?_
  refine zr_getf 4 rfl rfl rfl rfl rfl ?_
  refine zr_iload_n 5 rfl rfl rfl ?_
  refine zr_iald 6 rfl rfl rfl (nI_clamp (by omega)) (vp_in_nI (by omega) (by omega)) ?_
  refine zr_aload_n 7 rfl rfl rfl trivial ?_
  refine zr_getf 10 rfl rfl rfl rfl rfl ?_
  refine zr_iload_n 11 rfl rfl rfl ?_
  refine zr_iald 12 rfl rfl rfl (nI_clamp (by omega)) (vp_in_nI (by omega) (by omega)) ?_
  refine zr_imul 13 rfl rfl ?_
  refine zr_bipush 15 (x := 100) rfl rfl (by decide) ?_
  refine zr_idiv 16 rfl rfl (by decide) ?_
  refine zr_iret rfl rfl ?_
  refine ⟨?_, rfl⟩
  rw [h.k2 hi, h.hdp j hj]
theorem c_Mpw {S : Nat × (Nat → Int32)} {d n : Nat} {ξ : Nat → Nat → Int32} {ρ : zRho} {K : zCs} {ao i j : Nat} {s : Int32 × Int32 × Int32} (h : zMR ξ ao ((K.gd i).ws i s)) (hd3 : K.D ≤ 3) (hm6 : K.M ≤ 6) (hi : i < K.M) (hj : j < K.D) : Zc S (d + 1) jX6_partOf [.ref 42, .int (nI i), .int (nI j)] (zWof n ξ ρ) (fun r w => r = some (.int (K.p i 2 * K.dp j / 100)) ∧ w = zWof n ξ ρ) := by
  refine Zc_mono (d := d) (c_Mpo h hd3 hm6 hi hj) ?_
  rintro r w ⟨rfl, rfl⟩
  refine ⟨?_, rfl⟩
  rw [zws_k (by decide) (by decide) (by decide), zgd_p]
  rfl
theorem zhd_nI {T : Nat} (h : T ≤ 60) : zhd (nI T) = nI T := if_neg (zneg9 (nI_pos' (by omega)))
set_option maxRecDepth 20000 in
set_option maxHeartbeats 1000000 in
theorem c_MdayGoes {S : Nat × (Nat → Int32)} {d n : Nat} {ξ : Nat → Nat → Int32} {ρ : zRho} {K : zCs} {ao : Nat} (h : zMR ξ ao K) (hK : zOK K) (hT : K.T < 60) : Zc S (d + 5) jX6_dayGoes [.ref 42] (zWof n ξ ρ) (fun r w => r = none ∧ ∃ ξ2, w = zWof n ξ2 ρ ∧ zMR ξ2 ao (K.go (K.T + 1)) ∧ zfg ao ξ ξ2) := by
  have hd3 := hK.d3
  have hm6 := hK.m6
  have ht60 := hK.t60
  have hao := h.ho
  refine Zc_in (q := (6, 0, 0, 0, 5, 0, 0, zk_X6_dayGoes)) rfl (Nat.le_of_ble_eq_true rfl) (L := [_, _, _, _, _]) rfl ?_
  have key : ∀ (k : Nat) (i : Nat) (ξ1 : Nat → Nat → Int32), K.M - i = k → zMR ξ1 ao (K.gd i) → zfg ao ξ ξ1 → i ≤ K.M →  Zw S (Zc S (d + 4)) 6 false 0 zk_X6_dayGoes (fun r w => r = none ∧ ∃ ξ2, w = zWof n ξ2 ρ ∧ zMR ξ2 ao (K.go (K.T + 1)) ∧ zfg ao ξ ξ2) (8, [some (.ref 42), some (.int (nI K.T)), some (.int (nI i)), none, none], [], (0, 0), zWof n ξ1 ρ) := by
    intro k
    induction k using Nat.strongRecOn with
    | ind k ih =>
      intro i ξ1 hk m1 f1 hi2
      have em : ξ1 42 4 = nI K.M := m1.hm
      refine zr_iload_n 9 rfl rfl rfl ?_
      refine zr_aload_n 10 rfl rfl rfl trivial ?_
      refine zr_getf 13 rfl rfl rfl rfl rfl ?_
      refine zr_icmp_ge 144 16 rfl rfl (by decide) (fun c13z => ?_) (fun c13z => ?_)
      · rw [em, nI_leI (by omega) (by omega)] at c13z
        refine zr_aload_n 145 rfl rfl rfl trivial ?_
        refine zr_iconst 146 (x := 0) rfl rfl (by decide) ?_
        refine zr_iload_n 147 rfl rfl rfl ?_
        refine zr_iconst 148 (x := 1) rfl rfl (by decide) ?_
        refine zr_iadd 149 rfl rfl ?_
        refine zr_callv 152 (As := [_, _]) (u2 := (0, 0)) rfl rfl rfl rfl rfl rfl rfl (Nat.le_of_ble_eq_true rfl) (Nat.le_of_ble_eq_true rfl) (Nat.le_of_ble_eq_true rfl) rfl (c_Mb0 m1 _) rfl (fun v2 w2 h149z => ?_)
        obtain ⟨rfl, rfl⟩ := h149z
        refine zr_ret rfl rfl ?_
        have hiM : K.M = i := by omega
        refine ⟨rfl, _, rfl, zMR.dayend (by rw [hiM]; exact m1) hm6, f1.u (Nat.le_refl _) (by omega) _⟩
      · rw [em, nI_leI (by omega) (by omega)] at c13z
        have hi : i < K.M := by omega
        have hK1 := hK.gd hT i
        have key2 : ∀ (k2 : Nat) (j : Nat) (ξ3 : Nat → Nat → Int32) (v3 : Int32) (v5 : Int32) (v6 : Int32) (nn : Int32), K.D - j = k2 → zMR ξ3 ao ((K.gd i).ws i (v3, v5, v6)) → zfg ao ξ ξ3 → j ≤ K.D → (K.dy i K.T (K.s i) = (v3, v5, zmissF K.dd K.dp (K.p i 2) v3 (nI K.T) (K.D - j) j v6)) →  Zw S (Zc S (d + 4)) 6 false 0 zk_X6_dayGoes (fun r w => r = none ∧ ∃ ξ2, w = zWof n ξ2 ρ ∧ zMR ξ2 ao (K.go (K.T + 1)) ∧ zfg ao ξ ξ2) (77, [some (.ref 42), some (.int (nI K.T)), some (.int (nI i)), some (.int nn), some (.int (nI j))], [], (0, 0), zWof n ξ3 ρ) := by
          intro k2
          induction k2 using Nat.strongRecOn with
          | ind k2 ih2 =>
            intro j ξ3 v3 v5 v6 nn hk m3 f3 hj e
            have eD : ξ3 42 1 = nI K.D := m3.hd
            refine zr_iload 79 rfl rfl rfl ?_
            refine zr_aload_n 80 rfl rfl rfl trivial ?_
            refine zr_getf 83 rfl rfl rfl rfl rfl ?_
            refine zr_icmp_ge 138 86 rfl rfl (by decide) (fun c83z => ?_) (fun c83z => ?_)
            · rw [eD, nI_leI (by omega) (by omega)] at c83z
              refine zr_iinc 141 (c0 := 1) (L2 := [_, _, _, _, _]) rfl rfl rfl (by first | exact trivial | exact rfl) (by decide) rfl ?_
              refine zr_goto 8 rfl (by decide) ?_
              rw [nI_1]
              refine zs_forget (L' := [some (.ref 42), some (.int (nI K.T)), some (.int (nI (i + 1))), none, none]) (zsub_s (zsub_s (zsub_s (zsub_n (zsub_n zsub_0))))) ?_
              exact ih _ (by omega) (i + 1) ξ3 rfl (m3.step (by rw [e, show K.D - j = 0 by omega, zmissF])) f3 (by omega)
            · rw [eD, nI_leI (by omega) (by omega)] at c83z
              have q44 : ξ3 44 j = K.dd j := m3.hdd j (show j < K.D by omega)
              refine zr_aload_n 87 rfl rfl rfl trivial ?_
              refine zr_getf 90 rfl rfl rfl rfl rfl ?_
              refine zr_iload 92 rfl rfl rfl ?_
              refine zr_iald 93 rfl rfl rfl (nI_clamp (by omega)) (vp_in_nI (by omega) (by omega)) ?_
              refine zr_iload_n 94 rfl rfl rfl ?_
              refine zr_icmp_ne 132 97 rfl rfl (by decide) (fun c94z => ?_) (fun c94z => ?_)
              · refine zr_iinc 135 (c0 := 1) (L2 := [_, _, _, _, _]) rfl rfl rfl (by first | exact trivial | exact rfl) (by decide) rfl ?_
                refine zr_goto 77 rfl (by decide) ?_
                rw [nI_1]
                refine ih2 _ (by omega) (j + 1) ξ3 v3 v5 v6 nn rfl m3 f3 (by omega) ?_
                rw [e, zmiss_no (show j < K.D by omega) (fun q => c94z (by rw [q44]; exact q.1))]
              · refine zr_aload_n 98 rfl rfl rfl trivial ?_
                refine zr_iconst 99 (x := 1) rfl rfl (by decide) ?_
                refine zr_iload_n 100 rfl rfl rfl ?_
                refine zr_iadd 101 rfl rfl ?_
                refine zr_callv 104 (As := [_]) (u2 := (0, 0)) rfl rfl rfl rfl rfl rfl rfl (Nat.le_of_ble_eq_true rfl) (Nat.le_of_ble_eq_true rfl) (Nat.le_of_ble_eq_true rfl) rfl (c_Mw3 m3 hm6 hi) rfl (fun v2 w2 h101z => ?_)
                obtain ⟨rfl, rfl⟩ := h101z
                refine zr_aload_n 105 rfl rfl rfl trivial ?_
                refine zr_iload_n 106 rfl rfl rfl ?_
                refine zr_iload 108 rfl rfl rfl ?_
                refine zr_callv 111 (As := [_, _]) (u2 := (0, 0)) rfl rfl rfl rfl rfl rfl rfl (Nat.le_of_ble_eq_true rfl) (Nat.le_of_ble_eq_true rfl) (Nat.le_of_ble_eq_true rfl) rfl (c_Mpw m3 hd3 hm6 hi (show j < K.D by omega)) rfl (fun v2 w2 h108z => ?_)
                obtain ⟨rfl, rfl⟩ := h108z
                refine zr_icmp_ge 132 114 rfl rfl (by decide) (fun c111z => ?_) (fun c111z => ?_)
                · refine zr_iinc 135 (c0 := 1) (L2 := [_, _, _, _, _]) rfl rfl rfl (by first | exact trivial | exact rfl) (by decide) rfl ?_
                  refine zr_goto 77 rfl (by decide) ?_
                  rw [nI_1]
                  refine ih2 _ (by omega) (j + 1) ξ3 v3 v5 v6 nn rfl m3 f3 (by omega) ?_
                  rw [e, zmiss_no (show j < K.D by omega) (fun q => absurd q.2 (Int32.not_lt.mpr c111z))]
                · refine zr_aload_n 115 rfl rfl rfl trivial ?_
                  refine zr_bipush 117 (x := 13) rfl rfl (by decide) ?_
                  refine zr_iload_n 118 rfl rfl rfl ?_
                  refine zr_iadd 119 rfl rfl ?_
                  refine zr_aload_n 120 rfl rfl rfl trivial ?_
                  refine zr_bipush 122 (x := 13) rfl rfl (by decide) ?_
                  refine zr_iload_n 123 rfl rfl rfl ?_
                  refine zr_iadd 124 rfl rfl ?_
                  refine zr_callv 127 (As := [_]) (u2 := (0, 0)) rfl rfl rfl rfl rfl rfl rfl (Nat.le_of_ble_eq_true rfl) (Nat.le_of_ble_eq_true rfl) (Nat.le_of_ble_eq_true rfl) rfl (c_Mw6 m3 hm6 hi) rfl (fun v2 w2 h124z => ?_)
                  obtain ⟨rfl, rfl⟩ := h124z
                  refine zr_iconst 128 (x := 1) rfl rfl (by decide) ?_
                  refine zr_iadd 129 rfl rfl ?_
                  refine zr_callv 132 (As := [_, _]) (u2 := (0, 0)) rfl rfl rfl rfl rfl rfl rfl (Nat.le_of_ble_eq_true rfl) (Nat.le_of_ble_eq_true rfl) (Nat.le_of_ble_eq_true rfl) rfl (c_Mb (c := 13) m3 (by decide) hm6 hi _) rfl (fun v2 w2 h129z => ?_)
                  obtain ⟨rfl, rfl⟩ := h129z
                  refine zr_iinc 135 (c0 := 1) (L2 := [_, _, _, _, _]) rfl rfl rfl (by first | exact trivial | exact rfl) (by decide) rfl ?_
                  refine zr_goto 77 rfl (by decide) ?_
                  rw [nI_1]
                  refine ih2 _ (by omega) (j + 1) _ v3 v5 (v6 + 1) nn rfl (m3.w6 hm6 hi (v6 + 1)) (f3.u (by omega) (by omega) _) (by omega) ?_
                  rw [e, zmiss_yes (show j < K.D by omega) ⟨by rw [← q44]; exact c94z, Int32.not_le.mp c111z⟩]
        refine zr_aload_n 17 rfl rfl rfl trivial ?_
        refine zr_iload_n 18 rfl rfl rfl ?_
        refine zr_callv 21 (As := [_]) (u2 := (0, 0)) rfl rfl rfl rfl rfl rfl rfl (Nat.le_of_ble_eq_true rfl) (Nat.le_of_ble_eq_true rfl) (Nat.le_of_ble_eq_true rfl) rfl (c_Mhours m1 hK1 hi) rfl (fun v2 w2 h18z => ?_)
        obtain ⟨rfl, ξ2, rfl, f2, _⟩ := h18z
        have m1b := f2.mr m1 hm6
        have q48 : ξ2 48 i = K.p i 2 := (m1b.k2 hi).trans (congrFun (zgd_p K i) 2)
        have m2 := m1b.self
        have g2 := f1.go f2
        rw [zgd_n]
        refine zr_istore_n 22 (L2 := [_, _, _, _, _]) rfl rfl (Nat.le_of_ble_eq_true rfl) (by first | exact trivial | exact rfl) rfl ?_
        refine zr_aload_n 23 rfl rfl rfl trivial ?_
        refine zr_iconst 24 (x := 1) rfl rfl (by decide) ?_
        refine zr_iload_n 25 rfl rfl rfl ?_
        refine zr_iadd 26 rfl rfl ?_
        refine zr_aload_n 27 rfl rfl rfl trivial ?_
        refine zr_iconst 28 (x := 1) rfl rfl (by decide) ?_
        refine zr_iload_n 29 rfl rfl rfl ?_
        refine zr_iadd 30 rfl rfl ?_
        refine zr_callv 33 (As := [_]) (u2 := (0, 0)) rfl rfl rfl rfl rfl rfl rfl (Nat.le_of_ble_eq_true rfl) (Nat.le_of_ble_eq_true rfl) (Nat.le_of_ble_eq_true rfl) rfl (c_Mw3 m2 hm6 hi) rfl (fun v2 w2 h30z => ?_)
        obtain ⟨rfl, rfl⟩ := h30z
        refine zr_iload_n 34 rfl rfl rfl ?_
        refine zr_iadd 35 rfl rfl ?_
        refine zr_callv 38 (As := [_, _]) (u2 := (0, 0)) rfl rfl rfl rfl rfl rfl rfl (Nat.le_of_ble_eq_true rfl) (Nat.le_of_ble_eq_true rfl) (Nat.le_of_ble_eq_true rfl) rfl (c_Mb (c := 1) m2 (by decide) hm6 hi _) rfl (fun v2 w2 h35z => ?_)
        obtain ⟨rfl, rfl⟩ := h35z
        have m3 := m2.w3 hm6 hi (K.p i 3 + K.hrn i)
        have g3 := g2.u (k := ao + (1 + i)) (by omega) (by omega) (K.p i 3 + K.hrn i)
        refine zr_aload_n 39 rfl rfl rfl trivial ?_
        refine zr_bipush 41 (x := 7) rfl rfl (by decide) ?_
        refine zr_iload_n 42 rfl rfl rfl ?_
        refine zr_iadd 43 rfl rfl ?_
        refine zr_callv 46 (As := [_]) (u2 := (0, 0)) rfl rfl rfl rfl rfl rfl rfl (Nat.le_of_ble_eq_true rfl) (Nat.le_of_ble_eq_true rfl) (Nat.le_of_ble_eq_true rfl) rfl (c_Mw5 m3 hm6 hi) rfl (fun v2 w2 h43z => ?_)
        obtain ⟨rfl, rfl⟩ := h43z
        refine zr_if_ge 74 49 rfl rfl (by decide) (fun c46z => ?_) (fun c46z => ?_)
        · have h9 := (zhd_neg (hK.h9 hi)).2.mp c46z
          refine zr_iconst 75 (x := 0) rfl rfl (by decide) ?_
          refine zr_istore 77 (L2 := [_, _, _, _, _]) rfl rfl (Nat.le_of_ble_eq_true rfl) (by first | exact trivial | exact rfl) rfl ?_
          exact key2 _ 0 _ _ _ _ _ rfl m3 g3 (Nat.zero_le _) (by rw [show K.hrn i = 0 from if_neg h9]; exact zdy_A hK hi h9)
        · have h9 : K.p i 5 = -9 := (zhd_neg (hK.h9 hi)).1.mp (Int32.not_le.mp c46z)
          refine zr_aload_n 50 rfl rfl rfl trivial ?_
          refine zr_iconst 51 (x := 1) rfl rfl (by decide) ?_
          refine zr_iload_n 52 rfl rfl rfl ?_
          refine zr_iadd 53 rfl rfl ?_
          refine zr_callv 56 (As := [_]) (u2 := (0, 0)) rfl rfl rfl rfl rfl rfl rfl (Nat.le_of_ble_eq_true rfl) (Nat.le_of_ble_eq_true rfl) (Nat.le_of_ble_eq_true rfl) rfl (c_Mw3 m3 hm6 hi) rfl (fun v2 w2 h53z => ?_)
          obtain ⟨rfl, rfl⟩ := h53z
          refine zr_aload_n 57 rfl rfl rfl trivial ?_
          refine zr_getf 60 rfl rfl rfl rfl rfl ?_
          refine zr_iload_n 61 rfl rfl rfl ?_
          refine zr_iald 62 rfl rfl rfl (nI_clamp (by omega)) (vp_in_nI (by omega) (by omega)) ?_
          refine zr_icmp_ne 74 65 rfl rfl (by decide) (fun c62z => ?_) (fun c62z => ?_)
          · refine zr_iconst 75 (x := 0) rfl rfl (by decide) ?_
            refine zr_istore 77 (L2 := [_, _, _, _, _]) rfl rfl (Nat.le_of_ble_eq_true rfl) (by first | exact trivial | exact rfl) rfl ?_
            exact key2 _ 0 _ _ _ _ _ rfl m3 g3 (Nat.zero_le _) (by
              rw [show K.hrn i = K.hrs i from if_pos h9]
              exact zdy_B hK hi h9 (fun q => c62z (by rw [show K.hrn i = K.hrs i from if_pos h9]; exact q.trans q48.symm)))
          · refine zr_aload_n 66 rfl rfl rfl trivial ?_
            refine zr_bipush 68 (x := 7) rfl rfl (by decide) ?_
            refine zr_iload_n 69 rfl rfl rfl ?_
            refine zr_iadd 70 rfl rfl ?_
            refine zr_iload_n 71 rfl rfl rfl ?_
            refine zr_callv 74 (As := [_, _]) (u2 := (0, 0)) rfl rfl rfl rfl rfl rfl rfl (Nat.le_of_ble_eq_true rfl) (Nat.le_of_ble_eq_true rfl) (Nat.le_of_ble_eq_true rfl) rfl (c_Mb (c := 7) m3 (by decide) hm6 hi _) rfl (fun v2 w2 h71z => ?_)
            obtain ⟨rfl, rfl⟩ := h71z
            have m4 := m3.w5 hm6 hi (zhd_nI ht60)
            have g4 := g3.u (k := ao + (7 + i)) (by omega) (by omega) (nI K.T)
            refine zr_iconst 75 (x := 0) rfl rfl (by decide) ?_
            refine zr_istore 77 (L2 := [_, _, _, _, _]) rfl rfl (Nat.le_of_ble_eq_true rfl) (by first | exact trivial | exact rfl) rfl ?_
            exact key2 _ 0 _ _ _ _ _ rfl m4 g4 (Nat.zero_le _) (by
              rw [show K.hrn i = K.hrs i from if_pos h9]
              exact zdy_C h9 ((congrArg (K.p i 3 + ·) (show K.hrn i = K.hrs i from if_pos h9)).symm.trans (c62z.trans q48)))
  refine zr_aload_n 1 rfl rfl rfl trivial ?_
  refine zr_iconst 2 (x := 0) rfl rfl (by decide) ?_
  refine zr_callv 5 (As := [_]) (u2 := (0, 0)) rfl rfl rfl rfl rfl rfl rfl (Nat.le_of_ble_eq_true rfl) (Nat.le_of_ble_eq_true rfl) (Nat.le_of_ble_eq_true rfl) rfl (c_MiT h) rfl (fun v2 w2 h2z => ?_)
  obtain ⟨rfl, rfl⟩ := h2z
  refine zr_istore_n 6 (L2 := [_, _, _, _, _]) rfl rfl (Nat.le_of_ble_eq_true rfl) (by first | exact trivial | exact rfl) rfl ?_
  refine zr_iconst 7 (x := 0) rfl rfl (by decide) ?_
  refine zr_istore_n 8 (L2 := [_, _, _, _, _]) rfl rfl (Nat.le_of_ble_eq_true rfl) (by first | exact trivial | exact rfl) rfl ?_
  exact key _ 0 ξ rfl h.gd0 (zfg.rf _ _) (Nat.zero_le _)
theorem zput3_self (f : Nat → Int32) : zput3 f (f 3, f 5, f 6) = f := by
  funext k
  unfold zput3
  by_cases k3 : k = 3
  · subst k3; rfl
  by_cases k5 : k = 5
  · subst k5; rfl
  by_cases k6 : k = 6
  · subst k6; rfl
  rw [if_neg k3, if_neg k5, if_neg k6]
theorem zput3_2 (f : Nat → Int32) (s s2 : Int32 × Int32 × Int32) : zput3 (zput3 f s) s2 = zput3 f s2 := by
  funext k
  unfold zput3
  by_cases k3 : k = 3
  · subst k3; rfl
  by_cases k5 : k = 5
  · subst k5; rfl
  by_cases k6 : k = 6
  · subst k6; rfl
  simp only [if_neg k3, if_neg k5, if_neg k6]
theorem zgo_self (K : zCs) : K.go K.T = K := by
  have e : (fun i => zput3 (K.p i) (K.lv i (K.T - K.T) K.T)) = K.p := by
    funext i
    rw [Nat.sub_self]
    exact zput3_self (K.p i)
  unfold zCs.go
  rw [e]
theorem zgo_succ (K : zCs) {E : Nat} (h : K.T ≤ E) : (K.go E).go (E + 1) = K.go (E + 1) := by
  have e : (fun i => zput3 ((K.go E).p i) ((K.go E).lv i (E + 1 - E) E)) = fun i => zput3 (K.p i) (K.lv i (E + 1 - K.T) K.T) := by
    funext i
    have e1 : (K.go E).lv i (E + 1 - E) E = K.lv i (E + 1 - K.T) K.T := by
      rw [show E + 1 - E = 1 by omega, show E + 1 - K.T = (E - K.T) + 1 by omega, K.lv_snoc i (E - K.T), show K.T + (E - K.T) = E by omega]
      rfl
    rw [e1]
    exact zput3_2 _ _ _
  show (K.D, K.M, E + 1, K.z, K.law, K.dd, K.dp, fun i => zput3 ((K.go E).p i) ((K.go E).lv i (E + 1 - E) E)) = _
  rw [e]
  rfl
set_option maxRecDepth 20000 in
set_option maxHeartbeats 1000000 in
theorem c_Mgo {S : Nat × (Nat → Int32)} {d n : Nat} {ξ : Nat → Nat → Int32} {ρ : zRho} {K : zCs} {ao : Nat} (h : zMR ξ ao K) (hK : zOK K) {m : Nat} (hm : m ≤ 60) : Zc S (d + 6) jX6_go [.ref 42, .int (nI m)] (zWof n ξ ρ) (fun r w => r = none ∧ ∃ ξ2, w = zWof n ξ2 ρ ∧ zMR ξ2 ao (K.go (min 60 (K.T + m))) ∧ zfg ao ξ ξ2) := by
  have hd3 := hK.d3
  have hm6 := hK.m6
  have ht60 := hK.t60
  have hao := h.ho
  refine Zc_in (q := (6, 0, 0, 1, 3, 0, 0, zk_X6_go)) rfl (Nat.le_of_ble_eq_true rfl) (L := [_, _, _]) rfl ?_
  have key : ∀ (k : Nat) (j : Nat) (ξ1 : Nat → Nat → Int32), m - j = k → zMR ξ1 ao (K.go (K.T + j)) → zfg ao ξ ξ1 → j ≤ m → K.T + j ≤ 60 →  Zw S (Zc S (d + 5)) 6 false 0 zk_X6_go (fun r w => r = none ∧ ∃ ξ2, w = zWof n ξ2 ρ ∧ zMR ξ2 ao (K.go (min 60 (K.T + m))) ∧ zfg ao ξ ξ2) (2, [some (.ref 42), some (.int (nI m)), some (.int (nI j))], [], (0, 0), zWof n ξ1 ρ) := by
    intro k
    induction k using Nat.strongRecOn with
    | ind k ih =>
      intro j ξ1 hk m1 f1 hj hT
      refine zr_iload_n 3 rfl rfl rfl ?_
      refine zr_iload_n 4 rfl rfl rfl ?_
      refine zr_icmp_ge 27 7 rfl rfl (by decide) (fun c4z => ?_) (fun c4z => ?_)
      · rw [nI_leI (by omega) (by omega)] at c4z
        refine zr_ret rfl rfl ?_
        exact ⟨rfl, ξ1, rfl, by rw [show min 60 (K.T + m) = K.T + j by omega]; exact m1, f1⟩
      · rw [nI_leI (by omega) (by omega)] at c4z
        refine zr_aload_n 8 rfl rfl rfl trivial ?_
        refine zr_iconst 9 (x := 0) rfl rfl (by decide) ?_
        refine zr_callv 12 (As := [_]) (u2 := (0, 0)) rfl rfl rfl rfl rfl rfl rfl (Nat.le_of_ble_eq_true rfl) (Nat.le_of_ble_eq_true rfl) (Nat.le_of_ble_eq_true rfl) rfl (c_MiT m1) rfl (fun v2 w2 h9z => ?_)
        obtain ⟨rfl, rfl⟩ := h9z
        refine zr_bipush 14 (x := 60) rfl rfl (by decide) ?_
        refine zr_icmp_ge 27 17 rfl rfl (by decide) (fun c14z => ?_) (fun c14z => ?_)
        · have c14 : 60 ≤ K.T + j := (nI_leI (a := 60) (by decide) (show K.T + j < 2 ^ 31 by omega)).mp c14z
          refine zr_ret rfl rfl ?_
          exact ⟨rfl, ξ1, rfl, by rw [show min 60 (K.T + m) = K.T + j by omega]; exact m1, f1⟩
        · have c14 : K.T + j < 60 := Nat.lt_of_not_le (fun q => c14z ((nI_leI (a := 60) (by decide) (show K.T + j < 2 ^ 31 by omega)).mpr q))
          refine zr_aload_n 18 rfl rfl rfl trivial ?_
          refine zr_callv 21 (As := []) (u2 := (0, 0)) rfl rfl rfl rfl rfl rfl rfl (Nat.le_of_ble_eq_true rfl) (Nat.le_of_ble_eq_true rfl) (Nat.le_of_ble_eq_true rfl) rfl (c_MdayGoes m1 (hK.go (by omega) (by omega)) (show K.T + j < 60 from c14)) rfl (fun v2 w2 h18z => ?_)
          obtain ⟨rfl, ξ2, rfl, m2, f2⟩ := h18z
          refine zr_iinc 24 (c0 := 1) (L2 := [_, _, _]) rfl rfl rfl (by first | exact trivial | exact rfl) (by decide) rfl ?_
          refine zr_goto 2 rfl (by decide) ?_
          rw [nI_1]
          rw [show (K.go (K.T + j)).go ((K.go (K.T + j)).T + 1) = K.go (K.T + (j + 1)) from zgo_succ K (by omega)] at m2
          exact ih _ (by omega) (j + 1) ξ2 rfl m2 (f1.tr f2) (by omega) (by omega)
  refine zr_iconst 1 (x := 0) rfl rfl (by decide) ?_
  refine zr_istore_n 2 (L2 := [_, _, _]) rfl rfl (Nat.le_of_ble_eq_true rfl) (by first | exact trivial | exact rfl) rfl ?_
  exact key _ 0 ξ rfl (by rw [show K.go (K.T + 0) = K from zgo_self K]; exact h) (zfg.rf _ _) (Nat.zero_le _) (by omega)
abbrev zft (ξ ξ2 : Nat → Nat → Int32) : Prop := (∀ a, a ≠ 42 → a ≠ 50 → ξ2 a = ξ a) ∧ (∀ k, k ≠ 29 → k ≠ 30 → ξ2 42 k = ξ 42 k) ∧ ∀ k, k < 19 → ξ2 50 k = ξ 50 k
theorem zft.rf (ξ : Nat → Nat → Int32) : zft ξ ξ := ⟨fun _ _ _ => rfl, fun _ _ _ => rfl, fun _ _ => rfl⟩
theorem zft.tr {ξ ξ1 ξ2 : Nat → Nat → Int32} (f : zft ξ ξ1) (g : zft ξ1 ξ2) : zft ξ ξ2 :=
  ⟨fun a h1 h2 => by rw [g.1 a h1 h2]; exact f.1 a h1 h2, fun k h1 h2 => by rw [g.2.1 k h1 h2]; exact f.2.1 k h1 h2, fun k h => by rw [g.2.2 k h]; exact f.2.2 k h⟩
theorem zft.mr {ξ ξ1 : Nat → Nat → Int32} {K : zCs} (f : zft ξ ξ1) (h : zMR ξ 0 K) (hM : K.M ≤ 6) : zMR ξ1 0 K :=
  h.fr hM (fun b h1 h2 => f.1 b (by omega) (by omega)) (fun k hk => f.2.1 k (by omega) (by omega)) (fun k _ h2 => f.2.2 k (by omega))
theorem zft.at2 {ξ ξ1 : Nat → Nat → Int32} (f : zft ξ ξ1) (h : ξ 42 10 = 0) (x : Int32) : zft ξ (zu (zu ξ1 42 10 x) 42 10 0) :=
  ⟨fun a h1 h2 => by rw [zun h1, zun h1]; exact f.1 a h1 h2, fun k h1 h2 => by
    by_cases q : k = 10
    · subst q
      rw [zu_same, h]
    · rw [zu_ne (Or.inr q), zu_ne (Or.inr q)]
      exact f.2.1 k h1 h2, fun k h => by rw [zun (by decide), zun (by decide)]; exact f.2.2 k h⟩
theorem zMR.at2 {ξ : Nat → Nat → Int32} {a : Nat} {K : zCs} (h : zMR ξ a K) (hM : K.M ≤ 6) (x : Int32) : zMR (zu (zu ξ 42 10 x) 42 10 (nI a)) a K :=
  h.fr hM (fun b h1 h2 => by rw [zun (by omega), zun (by omega)]) (fun k hk => by
    by_cases q : k = 10
    · subst q
      rw [zu_same, h.ha]
    · rw [zu_ne (Or.inr q), zu_ne (Or.inr q)]) (fun k _ _ => by rw [zun (by decide), zun (by decide)])
theorem zlend {ξ ξ1 : Nat → Nat → Int32} {K : zCs} (h : zMR ξ 0 K) (hM : K.M ≤ 6) (fa : ∀ a, a ≠ 42 → a ≠ 50 → ξ1 a = ξ a) (fb : ∀ k, k ≠ 10 → ξ1 42 k = ξ 42 k) (fd : ∀ k, k < 19 → ξ1 50 (19 + k) = ξ 50 k) : zMR (zu ξ1 42 10 19) 19 K := by
  obtain ⟨a1, a2, a3, a4, a5, a6, a7, a8, a9, a10, a11⟩ := h
  refine ⟨Or.inr rfl, zu_same _ _ _ _, ?_, ?_, ?_, ?_, fun i hi => ?_, fun i hi => ?_, fun i hi => ?_, fun i hi => ?_, fun i hi => ?_⟩
  · rw [zu_ne (Or.inr (by decide)), fb 1 (by decide)]; exact a3
  · rw [zu_ne (Or.inr (by decide)), fb 4 (by decide)]; exact a4
  · rw [zun (by decide)]
    exact (fd 0 (by decide)).trans a5
  · rw [zu_ne (Or.inr (by decide)), fb 11 (by decide)]; exact a6
  · rw [zun (by decide), fa 43 (by decide) (by decide)]; exact a7 i hi
  · rw [zun (by decide), fa 44 (by decide) (by decide)]; exact a8 i hi
  · rw [zun (by decide), fa 45 (by decide) (by decide)]; exact a9 i hi
  · rw [zun (by decide), fa 46 (by decide) (by decide), zun (by decide), fa 47 (by decide) (by decide), zun (by decide), fa 48 (by decide) (by decide), zun (by decide), fa 49 (by decide) (by decide)]; exact a10 i hi
  · rw [zun (by decide), fd (1 + i) (by omega), fd (7 + i) (by omega), fd (13 + i) (by omega)]
    have q := a11 i hi
    rw [Nat.zero_add, Nat.zero_add, Nat.zero_add] at q
    exact q
set_option maxRecDepth 20000 in
set_option maxHeartbeats 1000000 in
theorem c_Mlends {S : Nat × (Nat → Int32)} {d n : Nat} {ξ : Nat → Nat → Int32} {ρ : zRho} {K : zCs} (h : zMR ξ 0 K) (hK : zOK K) : Zc S (d + 1) jX6_lends [.ref 42] (zWof n ξ ρ) (fun r w => r = none ∧ ∃ ξ2, w = zWof n ξ2 ρ ∧ zMR ξ2 19 K ∧ (∀ a, a ≠ 42 → a ≠ 50 → ξ2 a = ξ a) ∧ (∀ k, k ≠ 10 → ξ2 42 k = ξ 42 k) ∧ ∀ k, k < 19 → ξ2 50 k = ξ 50 k) := by
  have hd3 := hK.d3
  have hm6 := hK.m6
  have ht60 := hK.t60
  refine Zc_in (q := (6, 0, 0, 0, 2, 0, 0, zk_X6_lends)) rfl (Nat.le_of_ble_eq_true rfl) (L := [_, _]) rfl ?_
  have key : ∀ (k : Nat) (j : Nat) (ξ1 : Nat → Nat → Int32), 19 - j = k → (∀ a, a ≠ 42 → a ≠ 50 → ξ1 a = ξ a) → (∀ k, k ≠ 10 → ξ1 42 k = ξ 42 k) → (∀ k, k < 19 → ξ1 50 k = ξ 50 k) → (∀ k, k < j → ξ1 50 (19 + k) = ξ 50 k) → j ≤ 19 →  Zw S (Zc S d) 6 false 0 zk_X6_lends (fun r w => r = none ∧ ∃ ξ2, w = zWof n ξ2 ρ ∧ zMR ξ2 19 K ∧ (∀ a, a ≠ 42 → a ≠ 50 → ξ2 a = ξ a) ∧ (∀ k, k ≠ 10 → ξ2 42 k = ξ 42 k) ∧ ∀ k, k < 19 → ξ2 50 k = ξ 50 k) (7, [some (.ref 42), some (.int (nI j))], [], (0, 0), zWof n ξ1 ρ) := by
    intro k
    induction k using Nat.strongRecOn with
    | ind k ih =>
      intro j ξ1 hk fa fb fc fd hj
      refine zr_iload_n 8 rfl rfl rfl ?_
      refine zr_bipush 10 (x := 19) rfl rfl (by decide) ?_
      refine zr_icmp_ge 34 13 rfl rfl (by decide) (fun c10z => ?_) (fun c10z => ?_)
      · rw [show (19 : Int32) = nI 19 from rfl, nI_leI (by decide) (by omega)] at c10z
        refine zr_aload_n 35 rfl rfl rfl trivial ?_
        refine zr_bipush 37 (x := 19) rfl rfl (by decide) ?_
        refine zr_putf 40 rfl rfl rfl rfl (Nat.le_of_ble_eq_true rfl) rfl trivial (fun h => by cases h) (zW_set (k := 10) rfl) ?_
        refine zr_ret rfl rfl ?_
        refine ⟨rfl, _, rfl, zlend h hm6 fa fb (fun k hk => fd k (by omega)), fun a q1 q2 => by rw [zun q1]; exact fa a q1 q2, fun k hk => by rw [zu_ne (Or.inr hk)]; exact fb k hk, fun k hk => by rw [zun (by decide)]; exact fc k hk⟩
      · rw [show (19 : Int32) = nI 19 from rfl, nI_leI (by decide) (by omega)] at c10z
        refine zr_aload_n 14 rfl rfl rfl trivial ?_
        refine zr_getf 17 rfl rfl rfl rfl rfl ?_
        refine zr_bipush 19 (x := 19) rfl rfl (by decide) ?_
        refine zr_iload_n 20 rfl rfl rfl ?_
        refine zr_iadd 21 rfl rfl ?_
        rw [show (19 : Int32) + nI j = nI (19 + j) from nI_add 19 j]
        refine zr_aload_n 22 rfl rfl rfl trivial ?_
        refine zr_getf 25 rfl rfl rfl rfl rfl ?_
        refine zr_iload_n 26 rfl rfl rfl ?_
        refine zr_iald 27 rfl rfl rfl (nI_clamp (by omega)) (vp_in_nI (by omega) (by omega)) ?_
        refine zr_iast 28 rfl rfl rfl (nI_clamp (by omega)) (vp_in_nI (by omega) (by omega)) (zW_set rfl) ?_
        refine zr_iinc 31 (c0 := 1) (L2 := [_, _]) rfl rfl rfl (by first | exact trivial | exact rfl) (by decide) rfl ?_
        refine zr_goto 7 rfl (by decide) ?_
        rw [nI_1]
        refine ih _ (by omega) (j + 1) _ rfl (fun a q1 q2 => by rw [zun q2]; exact fa a q1 q2) (fun k hk => by rw [zun (by decide)]; exact fb k hk) (fun k hk => by rw [zu_ne (Or.inr (by omega))]; exact fc k hk) (fun k hk => ?_) (by omega)
        by_cases q : k = j
        · subst q
          rw [zu_same]
          exact fc k (by omega)
        · rw [zu_ne (Or.inr (by omega))]
          exact fd k (by omega)
  refine zr_aload_n 1 rfl rfl rfl trivial ?_
  refine zr_iconst 2 (x := 0) rfl rfl (by decide) ?_
  refine zr_putf 5 rfl rfl rfl rfl (Nat.le_of_ble_eq_true rfl) rfl trivial (fun h => by cases h) (zW_set (k := 10) rfl) ?_
  refine zr_iconst 6 (x := 0) rfl rfl (by decide) ?_
  refine zr_istore_n 7 (L2 := [_, _]) rfl rfl (Nat.le_of_ble_eq_true rfl) (by first | exact trivial | exact rfl) rfl ?_
  exact key _ 0 _ rfl (fun a q1 _ => zun q1) (fun k hk => zu_ne (Or.inr hk)) (fun k _ => by rw [zun (by decide)]) (fun k hk => absurd hk (Nat.not_lt_zero _)) (by decide)
set_option maxRecDepth 20000 in
set_option maxHeartbeats 1000000 in
theorem c_Mtries {S : Nat × (Nat → Int32)} {d n : Nat} {ξ : Nat → Nat → Int32} {ρ : zRho} {K : zCs} (h : zMR ξ 0 K) (hK : zOK K) : Zc S (d + 7) jX6_tries [.ref 42] (zWof n ξ ρ) (fun r w => r = none ∧ ∃ ξ2, w = zWof n ξ2 ρ ∧ zft ξ ξ2 ∧ zMR (zu ξ2 42 10 19) 19 (K.go 60)) := by
  have hd3 := hK.d3
  have hm6 := hK.m6
  have ht60 := hK.t60
  refine Zc_in (q := (6, 0, 0, 0, 1, 0, 0, zk_X6_tries)) rfl (Nat.le_of_ble_eq_true rfl) (L := [_]) rfl ?_
  refine zr_aload_n 1 rfl rfl rfl trivial ?_
  refine zr_callv 4 (As := []) (u2 := (0, 0)) rfl rfl rfl rfl rfl rfl rfl (Nat.le_of_ble_eq_true rfl) (Nat.le_of_ble_eq_true rfl) (Nat.le_of_ble_eq_true rfl) rfl (c_Mlends h hK) rfl (fun v2 w2 h1z => ?_)
  obtain ⟨rfl, ξ1, rfl, m1, fa, fb, fc⟩ := h1z
  refine zr_aload_n 5 rfl rfl rfl trivial ?_
  refine zr_bipush 7 (x := 60) rfl rfl (by decide) ?_
  refine zr_callv 10 (As := [_]) (u2 := (0, 0)) rfl rfl rfl rfl rfl rfl rfl (Nat.le_of_ble_eq_true rfl) (Nat.le_of_ble_eq_true rfl) (Nat.le_of_ble_eq_true rfl) rfl (c_Mgo (m := 60) m1 hK (by decide)) rfl (fun v2 w2 h7z => ?_)
  obtain ⟨rfl, ξ2, rfl, m2, f2⟩ := h7z
  rw [show min 60 (K.T + 60) = 60 by omega] at m2
  refine zr_aload_n 11 rfl rfl rfl trivial ?_
  refine zr_iconst 12 (x := 0) rfl rfl (by decide) ?_
  refine zr_putf 15 rfl rfl rfl rfl (Nat.le_of_ble_eq_true rfl) rfl trivial (fun h => by cases h) (zW_set (k := 10) rfl) ?_
  refine zr_ret rfl rfl ?_
  refine ⟨rfl, _, rfl, ⟨fun a q1 q2 => by rw [zun q1, f2.1 a q1 q2]; exact fa a q1 q2, fun k q1 q2 => ?_, fun k hk => by rw [zun (by decide), f2.2.2 k (Or.inl hk)]; exact fc k hk⟩, m2.at2 hm6 0⟩
  by_cases q : k = 10
  · subst q
    rw [zu_same]
    exact h.ha.symm
  · rw [zu_ne (Or.inr q), f2.2.1 k q1 q2]
    exact fb k q
set_option maxRecDepth 20000 in
set_option maxHeartbeats 1000000 in
theorem c_MmarkThen {S : Nat × (Nat → Int32)} {d n : Nat} {ξ : Nat → Nat → Int32} {ρ : zRho} {K : zCs} (h : zMR ξ 0 K) (hK : zOK K) {i : Nat} (hi : i < K.M) : Zc S (d + 8) jX6_markThen [.ref 42, .int (nI i)] (zWof n ξ ρ) (fun r w => r = some (.int ((K.go 60).mk' i)) ∧ ∃ ξ2, w = zWof n ξ2 ρ ∧ zft ξ ξ2) := by
  have hd3 := hK.d3
  have hm6 := hK.m6
  have ht60 := hK.t60
  refine Zc_in (q := (6, 0, 1, 1, 3, 0, 0, zk_X6_markThen)) rfl (Nat.le_of_ble_eq_true rfl) (L := [_, _, _]) rfl ?_
  refine zr_aload_n 1 rfl rfl rfl trivial ?_
  refine zr_callv 4 (As := []) (u2 := (0, 0)) rfl rfl rfl rfl rfl rfl rfl (Nat.le_of_ble_eq_true rfl) (Nat.le_of_ble_eq_true rfl) (Nat.le_of_ble_eq_true rfl) rfl (c_Mtries h hK) rfl (fun v2 w2 h1z => ?_)
  obtain ⟨rfl, ξ1, rfl, f1, m1⟩ := h1z
  refine zr_aload_n 5 rfl rfl rfl trivial ?_
  refine zr_bipush 7 (x := 19) rfl rfl (by decide) ?_
  refine zr_putf 10 rfl rfl rfl rfl (Nat.le_of_ble_eq_true rfl) rfl trivial (fun h => by cases h) (zW_set (k := 10) rfl) ?_
  refine zr_aload_n 11 rfl rfl rfl trivial ?_
  refine zr_iload_n 12 rfl rfl rfl ?_
  refine zr_callv 15 (As := [_]) (u2 := (0, 0)) rfl rfl rfl rfl rfl rfl rfl (Nat.le_of_ble_eq_true rfl) (Nat.le_of_ble_eq_true rfl) (Nat.le_of_ble_eq_true rfl) rfl (c_Mmark m1 (hK.go ht60 (Nat.le_refl _)) hi) rfl (fun v2 w2 h12z => ?_)
  obtain ⟨rfl, rfl⟩ := h12z
  refine zr_istore_n 16 (L2 := [_, _, _]) rfl rfl (Nat.le_of_ble_eq_true rfl) (by first | exact trivial | exact rfl) rfl ?_
  refine zr_aload_n 17 rfl rfl rfl trivial ?_
  refine zr_iconst 18 (x := 0) rfl rfl (by decide) ?_
  refine zr_putf 21 rfl rfl rfl rfl (Nat.le_of_ble_eq_true rfl) rfl trivial (fun h => by cases h) (zW_set (k := 10) rfl) ?_
  refine zr_iload_n 22 rfl rfl rfl ?_
  refine zr_iret rfl rfl ?_
  exact ⟨rfl, _, rfl, f1.at2 h.ha 19⟩
