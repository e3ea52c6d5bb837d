/-- one day of one PERSON: (done, handed, missed) -/
def zdayS (dd dp : Nat → Int32) (D : Nat) (due most kind a work ill : Int32) (day : Nat) (s : Int32 × Int32 × Int32) : Int32 × Int32 × Int32 :=
  if s.2.1 = -9 then (zdoneF dd dp D due most kind a work s.1 ill (nI day), (if work ≤ zdoneF dd dp D due most kind a work s.1 ill (nI day) then nI day else -9), zmissF dd dp work (zdoneF dd dp D due most kind a work s.1 ill (nI day)) (nI day) D 0 s.2.2) else s
/-- n days, from one on -/
def zlvS (dd dp : Nat → Int32) (D : Nat) (due most kind a work ill : Int32) : Nat → Nat → Int32 × Int32 × Int32 → Int32 × Int32 × Int32
  | 0, _, s => s
  | n + 1, day, s => zlvS dd dp D due most kind a work ill n (day + 1) (zdayS dd dp D due most kind a work ill day s)
theorem zlvS_handed {dd dp : Nat → Int32} {D : Nat} {due most kind a work ill : Int32} : ∀ (n day : Nat) (s : Int32 × Int32 × Int32), ¬ s.2.1 = -9 → zlvS dd dp D due most kind a work ill n day s = s
  | 0, _, _, _ => rfl
  | n + 1, day, s, h => by
    unfold zlvS zdayS
    rw [if_neg h]
    exact zlvS_handed n (day + 1) s h
/-- all goals lie within a hundred days -/
def zgok (dd : Nat → Int32) (D : Nat) (due : Int32) : Prop := ∀ i, 0 ≤ (zgdayF dd D due i).toInt ∧ (zgdayF dd D due i).toInt ≤ 100
theorem zgok_z {dd : Nat → Int32} {D : Nat} {due : Int32} (h : zgok dd D due) {j : Nat} (hj : j ≤ 60) (i : Nat) : ¬ ztogoF (zgdayF dd D due i) (nI j) = 0 ∧ ¬ ztogoF (zgdayF dd D due i) (nI j) + 1 = 0 := by
  refine ztogo_pos ?_ ?_ (h i).1 (h i).2
  · rw [nI_toInt (by omega)]
    omega
  · rw [nI_toInt (by omega)]
    omega
set_option maxRecDepth 20000 in
set_option maxHeartbeats 1000000 in
theorem c_live {S : Nat × (Nat → Int32)} {d n : Nat} {ξ : Nat → Nat → Int32} {ρ : zRho} {b p D T E : Nat} (hb : zisC b) (hp : zisP p) (hD : ξ b 4 = nI D) (h3 : D ≤ 3) (hT : ξ b 6 = nI T) (hTE : T ≤ E) (hE : E ≤ 60) (hg : zgok (ξ (b + 2)) D (ξ (b + 1) 0)) : Zc S (d + 5) jX0_live [.ref b, .ref p, .int (nI E)] (zWof n ξ ρ) (fun r w => r = none ∧ ∃ ξ2, w = zWof n ξ2 ρ ∧ (∀ a k, a ≠ p → ξ2 a k = ξ a k) ∧ (∀ k, k ≠ 3 → k ≠ 5 → k ≠ 6 → ξ2 p k = ξ p k) ∧ (ξ2 p 3, ξ2 p 5, ξ2 p 6) = zlvS (ξ (b + 2)) (ξ (b + 3)) D (ξ (b + 1) 0) (ξ (b + 1) 1) (ξ p 0) (ξ p 1) (ξ p 2) (ξ p 4) (E - T) T (ξ p 3, ξ p 5, ξ p 6)) := by
  refine Zc_in (q := (0, 0, 0, 2, 4, 0, 0, zk_X0_live)) rfl (Nat.le_of_ble_eq_true rfl) (L := [_, _, _, _]) rfl ?_
  have n0 := zPC hb hp (k := 0) (by decide)
  have n1 := zPC hb hp (k := 1) (by decide)
  have n2 := zPC hb hp (k := 2) (by decide)
  have n3 := zPC hb hp (k := 3) (by decide)
  rw [Nat.add_zero] at n0
  have key : ∀ (k : Nat) (j : Nat) (ξ1 : Nat → Nat → Int32), E - j = k → T ≤ j ∧ j ≤ E → (∀ a k, a ≠ p → ξ1 a k = ξ a k) → (∀ k, k ≠ 3 → k ≠ 5 → k ≠ 6 → ξ1 p k = ξ p k) → zlvS (ξ (b + 2)) (ξ (b + 3)) D (ξ (b + 1) 0) (ξ (b + 1) 1) (ξ p 0) (ξ p 1) (ξ p 2) (ξ p 4) (E - T) T (ξ p 3, ξ p 5, ξ p 6) = zlvS (ξ (b + 2)) (ξ (b + 3)) D (ξ (b + 1) 0) (ξ (b + 1) 1) (ξ p 0) (ξ p 1) (ξ p 2) (ξ p 4) (E - j) j (ξ1 p 3, ξ1 p 5, ξ1 p 6) →  Zw S (Zc S (d + 4)) 0 false 0 zk_X0_live (fun r w => r = none ∧ ∃ ξ2, w = zWof n ξ2 ρ ∧ (∀ a k, a ≠ p → ξ2 a k = ξ a k) ∧ (∀ k, k ≠ 3 → k ≠ 5 → k ≠ 6 → ξ2 p k = ξ p k) ∧ (ξ2 p 3, ξ2 p 5, ξ2 p 6) = zlvS (ξ (b + 2)) (ξ (b + 3)) D (ξ (b + 1) 0) (ξ (b + 1) 1) (ξ p 0) (ξ p 1) (ξ p 2) (ξ p 4) (E - T) T (ξ p 3, ξ p 5, ξ p 6)) (5, [some (.ref b), some (.ref p), some (.int (nI E)), some (.int (nI j))], [], (0, 0), zWof n ξ1 ρ) := by
    intro k
    induction k using Nat.strongRecOn with
    | ind k ih =>
      intro j ξ1 hk h2 f1 f2 e3
      have hD1 : ξ1 b 4 = nI D := by rw [f1 b 4 n0]; exact hD
      have g1 : ξ1 (b + 1) = ξ (b + 1) := funext fun k => f1 _ k n1
      have g2 : ξ1 (b + 2) = ξ (b + 2) := funext fun k => f1 _ k n2
      have g3 : ξ1 (b + 3) = ξ (b + 3) := funext fun k => f1 _ k n3
      have k0 : ξ1 p 0 = ξ p 0 := f2 0 (by decide) (by decide) (by decide)
      have k1 : ξ1 p 1 = ξ p 1 := f2 1 (by decide) (by decide) (by decide)
      have k2 : ξ1 p 2 = ξ p 2 := f2 2 (by decide) (by decide) (by decide)
      have k4 : ξ1 p 4 = ξ p 4 := f2 4 (by decide) (by decide) (by decide)
      refine zr_iload_n 6 rfl rfl rfl ?_
      refine zr_iload_n 7 rfl rfl rfl ?_
      refine zr_icmp_ge 30 10 rfl rfl (by decide) (fun c7z => ?_) (fun c7z => ?_)
      · rw [nI_leI (by omega) (by omega)] at c7z
        refine zr_ret rfl rfl ?_
        exact ⟨rfl, ξ1, rfl, f1, f2, by rw [e3, show E - j = 0 by omega]; rfl⟩
      · rw [nI_leI (by omega) (by omega)] at c7z
        refine zr_aload_n 11 rfl rfl rfl trivial ?_
        refine zr_callv 14 (As := []) (u2 := (0, 0)) rfl rfl rfl rfl rfl rfl rfl (Nat.le_of_ble_eq_true rfl) (Nat.le_of_ble_eq_true rfl) (Nat.le_of_ble_eq_true rfl) (zc_pe hp) (c_hasHanded hp) rfl (fun v2 w2 h11z => ?_)
        obtain ⟨rfl, rfl⟩ := h11z
        refine zr_if_ne 30 17 rfl rfl (by decide) (fun c14z => ?_) (fun c14z => ?_)
        · replace c14z := zb_n0.mp c14z
          refine zr_ret rfl rfl ?_
          exact ⟨rfl, ξ1, rfl, f1, f2, by rw [e3, zlvS_handed _ _ _ c14z]⟩
        · replace c14z := zb_0.mp c14z
          refine zr_aload_n 18 rfl rfl rfl trivial ?_
          refine zr_aload_n 19 rfl rfl rfl trivial ?_
          refine zr_iload_n 20 rfl rfl rfl ?_
          refine zr_callv 23 (As := [_, _]) (u2 := (0, 0)) rfl rfl rfl rfl rfl rfl rfl (Nat.le_of_ble_eq_true rfl) (Nat.le_of_ble_eq_true rfl) (Nat.le_of_ble_eq_true rfl) (zc_co hb) (c_liveDay hb hp hD1 h3 _ (by rw [g1, g2]; exact zgok_z hg (by omega))) rfl (fun v2 w2 h20z => ?_)
          obtain ⟨rfl, ξ3, rfl, l1, l2, l3, l4⟩ := h20z
          refine zr_pop 24 rfl rfl rfl ?_
          refine zr_iinc 27 (c0 := 1) (L2 := [_, _, _, _]) rfl rfl rfl (by first | exact trivial | exact rfl) (by decide) rfl ?_
          refine zr_goto 5 rfl (by decide) ?_
          rw [nI_1]
          have cq := Decidable.not_not.mp c14z
          obtain ⟨m1, m2, m3⟩ := l4 cq
          refine ih _ (by omega) (j + 1) ξ3 rfl (by omega) (fun a k ha => by rw [l1 a k ha, f1 a k ha]) (fun k q3 q5 q6 => by rw [l2 k q3 q5 q6, f2 k q3 q5 q6]) ?_
          rw [e3, show E - j = E - (j + 1) + 1 by omega, zlvS]
          congr 1
          unfold zdayS
          rw [if_pos cq]
          simp only [m1, m2, m3, g1, g2, g3, k0, k1, k2, k4]
  refine zr_aload_n 1 rfl rfl rfl trivial ?_
  refine zr_getf 4 rfl rfl rfl (zc_co hb) rfl ?_
  refine zr_istore_n 5 (L2 := [_, _, _, _]) rfl rfl (Nat.le_of_ble_eq_true rfl) (by first | exact trivial | exact rfl) rfl ?_
  rw [hT]
  exact key _ T ξ rfl (by omega) (fun _ _ _ => rfl) (fun _ _ _ _ => rfl) rfl
def zclampF (m : Int32) : Int32 := if 0 < zminI 120 m then zminI 120 m else 0
/-- the MARK of one who handed in, or -1 -/
def zmarkF (due pen bon mis handed missed : Int32) : Int32 := if handed = -9 then -1 else zclampF (100 + (due - handed) * (if due - handed ≤ 0 then pen else bon) - missed * mis)
set_option maxRecDepth 20000 in
set_option maxHeartbeats 1000000 in
theorem c_markFor {S : Nat × (Nat → Int32)} {d n : Nat} {ξ : Nat → Nat → Int32} {ρ : zRho} {b p : Nat} (hb : zisC b) (hp : zisP p) : Zc S (d + 2) jX0_markFor [.ref b, .ref p] (zWof n ξ ρ) (fun r w => r = some (.int (zmarkF (ξ (b + 1) 0) (ξ (b + 1) 2) (ξ (b + 1) 3) (ξ (b + 1) 4) (ξ p 5) (ξ p 6))) ∧ w = zWof n ξ ρ) := by
  refine Zc_in (q := (0, 0, 1, 1, 5, 0, 0, zk_X0_markFor)) rfl (Nat.le_of_ble_eq_true rfl) (L := [_, _, _, _, _]) rfl ?_
  refine zr_aload_n 1 rfl rfl rfl trivial ?_
  refine zr_callv 4 (As := []) (u2 := (0, 0)) rfl rfl rfl rfl rfl rfl rfl (Nat.le_of_ble_eq_true rfl) (Nat.le_of_ble_eq_true rfl) (Nat.le_of_ble_eq_true rfl) (zc_pe hp) (c_hasHanded hp) rfl (fun v2 w2 h1z => ?_)
  obtain ⟨rfl, rfl⟩ := h1z
  refine zr_if_ne 9 7 rfl rfl (by decide) (fun c4z => ?_) (fun c4z => ?_)
  · replace c4z := zb_n0.mp c4z
    refine zr_aload_n 10 rfl rfl rfl trivial ?_
    refine zr_getf 13 rfl rfl rfl (zc_co hb) rfl ?_
    refine zr_iconst 14 (x := 0) rfl rfl (by decide) ?_
    refine zr_iald 15 (i := 0) rfl rfl (zc_c1 hb) (by decide) (by unfold vp_in; decide) ?_
    refine zr_aload_n 16 rfl rfl rfl trivial ?_
    refine zr_getf 19 rfl rfl rfl (zc_pe hp) rfl ?_
    refine zr_isub 20 rfl rfl ?_
    refine zr_istore_n 21 (L2 := [_, _, _, _, _]) rfl rfl (Nat.le_of_ble_eq_true rfl) (by first | exact trivial | exact rfl) rfl ?_
    refine zr_iload_n 22 rfl rfl rfl ?_
    refine zr_if_le 34 25 rfl rfl (by decide) (fun c22z => ?_) (fun c22z => ?_)
    · refine zr_aload_n 35 rfl rfl rfl trivial ?_
      refine zr_getf 38 rfl rfl rfl (zc_co hb) rfl ?_
      refine zr_iconst 39 (x := 2) rfl rfl (by decide) ?_
      refine zr_iald 40 (i := 2) rfl rfl (zc_c1 hb) (by decide) (by unfold vp_in; decide) ?_
      refine zr_istore_n 41 (L2 := [_, _, _, _, _]) rfl rfl (Nat.le_of_ble_eq_true rfl) (by first | exact trivial | exact rfl) rfl ?_
      refine zr_bipush 43 (x := 100) rfl rfl (by decide) ?_
      refine zr_iload_n 44 rfl rfl rfl ?_
      refine zr_iload_n 45 rfl rfl rfl ?_
      refine zr_imul 46 rfl rfl ?_
      refine zr_iadd 47 rfl rfl ?_
      refine zr_aload_n 48 rfl rfl rfl trivial ?_
      refine zr_getf 51 rfl rfl rfl (zc_pe hp) rfl ?_
      refine zr_aload_n 52 rfl rfl rfl trivial ?_
      refine zr_getf 55 rfl rfl rfl (zc_co hb) rfl ?_
      refine zr_iconst 56 (x := 4) rfl rfl (by decide) ?_
      refine zr_iald 57 (i := 4) rfl rfl (zc_c1 hb) (by decide) (by unfold vp_in; decide) ?_
      refine zr_imul 58 rfl rfl ?_
      refine zr_isub 59 rfl rfl ?_
      refine zr_istore 61 (L2 := [_, _, _, _, _]) rfl rfl (Nat.le_of_ble_eq_true rfl) (by first | exact trivial | exact rfl) rfl ?_
      refine zr_iconst 62 (x := 0) rfl rfl (by decide) ?_
      refine zr_bipush 64 (x := 120) rfl rfl (by decide) ?_
      refine zr_iload 66 rfl rfl rfl ?_
      refine zr_min 69 rfl rfl rfl (Nat.le_of_ble_eq_true rfl) rfl ?_
      refine zr_max 72 rfl rfl rfl (Nat.le_of_ble_eq_true rfl) rfl ?_
      refine zr_iret rfl rfl ?_
      refine ⟨?_, rfl⟩
      unfold zmarkF
      rw [if_neg c4z]
      first | rw [if_pos c22z] | rw [if_neg c22z]
      rfl
    · refine zr_aload_n 26 rfl rfl rfl trivial ?_
      refine zr_getf 29 rfl rfl rfl (zc_co hb) rfl ?_
      refine zr_iconst 30 (x := 3) rfl rfl (by decide) ?_
      refine zr_iald 31 (i := 3) rfl rfl (zc_c1 hb) (by decide) (by unfold vp_in; decide) ?_
      refine zr_goto 40 rfl (by decide) ?_
      refine zr_istore_n 41 (L2 := [_, _, _, _, _]) rfl rfl (Nat.le_of_ble_eq_true rfl) (by first | exact trivial | exact rfl) rfl ?_
      refine zr_bipush 43 (x := 100) rfl rfl (by decide) ?_
      refine zr_iload_n 44 rfl rfl rfl ?_
      refine zr_iload_n 45 rfl rfl rfl ?_
      refine zr_imul 46 rfl rfl ?_
      refine zr_iadd 47 rfl rfl ?_
      refine zr_aload_n 48 rfl rfl rfl trivial ?_
      refine zr_getf 51 rfl rfl rfl (zc_pe hp) rfl ?_
      refine zr_aload_n 52 rfl rfl rfl trivial ?_
      refine zr_getf 55 rfl rfl rfl (zc_co hb) rfl ?_
      refine zr_iconst 56 (x := 4) rfl rfl (by decide) ?_
      refine zr_iald 57 (i := 4) rfl rfl (zc_c1 hb) (by decide) (by unfold vp_in; decide) ?_
      refine zr_imul 58 rfl rfl ?_
      refine zr_isub 59 rfl rfl ?_
      refine zr_istore 61 (L2 := [_, _, _, _, _]) rfl rfl (Nat.le_of_ble_eq_true rfl) (by first | exact trivial | exact rfl) rfl ?_
      refine zr_iconst 62 (x := 0) rfl rfl (by decide) ?_
      refine zr_bipush 64 (x := 120) rfl rfl (by decide) ?_
      refine zr_iload 66 rfl rfl rfl ?_
      refine zr_min 69 rfl rfl rfl (Nat.le_of_ble_eq_true rfl) rfl ?_
      refine zr_max 72 rfl rfl rfl (Nat.le_of_ble_eq_true rfl) rfl ?_
      refine zr_iret rfl rfl ?_
      refine ⟨?_, rfl⟩
      unfold zmarkF
      rw [if_neg c4z]
      first | rw [if_pos c22z] | rw [if_neg c22z]
      rfl
  · replace c4z := zb_0.mp c4z
    refine zr_iconst 8 (x := (-1)) rfl rfl (by decide) ?_
    refine zr_iret rfl rfl ?_
    exact ⟨by unfold zmarkF; rw [if_pos (Decidable.not_not.mp c4z)], rfl⟩
