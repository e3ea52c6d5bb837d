abbrev zMF (ξ : Nat → Nat → Int32) (K : zCs) : Prop := ξ 42 20 = nI K.M ∧ ξ 42 21 = nI K.D ∧ (∀ i, i < 5 → ξ 52 i = K.law i) ∧ (∀ i, i < K.D → ξ 57 i = K.dd i) ∧ (∀ i, i < K.D → ξ 58 i = K.dp i) ∧ (∀ i, i < K.M → ξ 53 i = K.p i 0 ∧ ξ 54 i = K.p i 1 ∧ ξ 55 i = K.p i 2 ∧ ξ 56 i = K.p i 4) ∧ (∀ i, i < K.M → K.p i 3 = 0 ∧ K.p i 5 = -9 ∧ K.p i 6 = 0) ∧ K.D ≤ 3 ∧ K.M ≤ 6
theorem zMF.fr {ξ ξ2 : Nat → Nat → Int32} {K : zCs} (h : zMF ξ K) (f : zfrQ ξ ξ2) : zMF ξ2 K := by
  obtain ⟨a1, a2, a3, a4, a5, a6, a7⟩ := h
  refine ⟨by rw [f.2 20 (by decide) (by decide) (by decide) (by decide) (by decide)]; exact a1, by rw [f.2 21 (by decide) (by decide) (by decide) (by decide) (by decide)]; exact a2, by rw [f.1 52 (by decide)]; exact a3, by rw [f.1 57 (by decide)]; exact a4, by rw [f.1 58 (by decide)]; exact a5, ?_, a7⟩
  rw [f.1 53 (by decide), f.1 54 (by decide), f.1 55 (by decide), f.1 56 (by decide)]
  exact a6
abbrev zfrC (ξ ξ2 : Nat → Nat → Int32) : Prop := (∀ b, b ≠ 42 → (b < 52 ∨ 59 ≤ b) → ξ2 b = ξ b) ∧ ∀ k, k ≠ 14 → k ≠ 15 → k ≠ 16 → k ≠ 18 → k ≠ 19 → k ≠ 20 → k ≠ 21 → ξ2 42 k = ξ 42 k
theorem zfrQ.c {ξ ξ2 : Nat → Nat → Int32} (f : zfrQ ξ ξ2) : zfrC ξ ξ2 := ⟨fun b hb _ => f.1 b hb, fun k h1 h2 h3 h4 h5 _ _ => f.2 k h1 h2 h3 h4 h5⟩
theorem zfrC.tr {ξ ξ1 ξ2 : Nat → Nat → Int32} (f : zfrC ξ ξ1) (g : zfrC ξ1 ξ2) : zfrC ξ ξ2 := ⟨fun b h1 h2 => (g.1 b h1 h2).trans (f.1 b h1 h2), fun k h1 h2 h3 h4 h5 h6 h7 => (g.2 k h1 h2 h3 h4 h5 h6 h7).trans (f.2 k h1 h2 h3 h4 h5 h6 h7)⟩
theorem zfrC.u {ξ ξ1 : Nat → Nat → Int32} (f : zfrC ξ ξ1) (a k : Nat) (v : Int32) (h : (52 ≤ a ∧ a < 59) ∨ (a = 42 ∧ (k = 20 ∨ k = 21))) : zfrC ξ (zu ξ1 a k v) :=
  ⟨fun b h1 h2 => by rw [zun (by omega)]; exact f.1 b h1 h2, fun j h1 h2 h3 h4 h5 h6 h7 => by rw [zu_ne (by omega)]; exact f.2 j h1 h2 h3 h4 h5 h6 h7⟩
def zMRs (ξ : Nat → Nat → Int32) (wd : Int64) (tb tu : Nat → Int32) (L : Nat) : zRd → Prop
  | .inl f => zMQ ξ wd tb tu L (.inl f)
  | .inr q => zMQ ξ wd tb tu L (.inr q.2) ∧ zMF ξ q.1
theorem zlok_3 {l : Nat} (hl : l < 3) (v : Int32) : zlok (nI l) v ↔ (zllo l ≤ v ∧ v ≤ zlhi l) := by
  rcases (by omega : l = 0 ∨ l = 1 ∨ l = 2) with rfl | rfl | rfl
  · show zlok 0 v ↔ (1 ≤ v ∧ v ≤ 50)
    unfold zlok
    simp
  · show zlok 1 v ↔ (1 ≤ v ∧ v ≤ 12)
    unfold zlok
    simp
  · show zlok 2 v ↔ (0 ≤ v ∧ v ≤ 30)
    unfold zlok
    simp
theorem zllo_0 {l : Nat} (hl : l < 3) : 0 ≤ zllo l := by
  rcases (by omega : l = 0 ∨ l = 1 ∨ l = 2) with rfl | rfl | rfl <;> decide
theorem zMF.slaw {ξ : Nat → Nat → Int32} {K : zCs} (h : zMF ξ K) (l : Nat) (v : Int32) : zMF (zu ξ 52 l v) (K.slaw l v) := by
  obtain ⟨a1, a2, a3, a4, a5, a6, a7⟩ := h
  refine ⟨a1, a2, fun i hi => ?_, a4, a5, a6, a7⟩
  show zu ξ 52 l v 52 i = upd K.law l v i
  rw [zup]
  unfold upd
  split
  · rfl
  · exact a3 i hi
theorem zMF.addD {ξ : Nat → Nat → Int32} {K : zCs} (h : zMF ξ K) (h3 : K.D < 3) {day part : Int32} (hd : 0 < K.D → K.dd (K.D - 1) ≤ day) {x : Int32} (hx : x = nI (K.D + 1)) : zMF (zu (zu (zu ξ 57 K.D day) 58 K.D part) 42 21 x) (K.addD day part) := by
  obtain ⟨a1, a2, a3, a4, a5, a6, a7, a8, a9⟩ := h
  have e : zaddF day part K.D (K.dd, K.dp) = (upd K.dd K.D day, upd K.dp K.D part) := by
    rcases Nat.eq_zero_or_pos K.D with q | q
    · rw [q, zaddF]
    · have z := hd q
      obtain ⟨D2, e2⟩ : ∃ D2, K.D = D2 + 1 := ⟨K.D - 1, by omega⟩
      rw [e2] at z ⊢
      rw [zaddF]
      exact if_pos z
  refine ⟨a1, ?_, a3, fun i hi => ?_, fun i hi => ?_, a6, a7, ?_, a9⟩
  · rw [zu_same]
    exact hx
  · show zu ξ 57 K.D day 57 i = (zaddF day part K.D (K.dd, K.dp)).1 i
    have hi2 : i < K.D + 1 := hi
    rw [e, zup]
    show upd (ξ 57) K.D day i = upd K.dd K.D day i
    unfold upd
    by_cases q : i = K.D
    · rw [if_pos q, if_pos q]
    · rw [if_neg q, if_neg q]
      exact a4 i (by omega)
  · show zu ξ 58 K.D part 58 i = (zaddF day part K.D (K.dd, K.dp)).2 i
    have hi2 : i < K.D + 1 := hi
    rw [e, zup]
    show upd (ξ 58) K.D part i = upd K.dp K.D part i
    unfold upd
    by_cases q : i = K.D
    · rw [if_pos q, if_pos q]
    · rw [if_neg q, if_neg q]
      exact a5 i (by omega)
  · show K.D + 1 ≤ 3
    omega
theorem zPk.dd {K : zCs} (h : zPk K) {i : Nat} (hi : i < K.D) : 0 ≤ (K.dd i).toInt ∧ (K.dd i).toInt < 50 := by
  have a := h.1.hdd i hi
  have e : ((K.slaw 0 50).law 0).toInt = 50 := by
    show (upd K.law 0 50 0).toInt = 50
    rw [show upd K.law 0 50 0 = 50 from if_pos rfl]
    decide
  rw [e] at a
  exact a
theorem zleast_0 {K : zCs} (h : zPk K) : 0 ≤ zleast K := by
  unfold zleast
  split
  · have a := h.dd (i := K.D - 1) (by omega)
    rw [Int32.le_iff_toInt_le, zI0, zTadd (by rw [zI1]; omega) (by rw [zI1]; omega), zI1]
    omega
  · decide
theorem zleast_le {K : zCs} (h : zPk K) {day : Int32} (hd : zleast K ≤ day) (h0 : 0 < K.D) : K.dd (K.D - 1) ≤ day := by
  unfold zleast at hd
  rw [if_pos h0] at hd
  have a := h.dd (i := K.D - 1) (by omega)
  have b := Int32.le_iff_toInt_le.mp hd
  rw [zTadd (by rw [zI1]; omega) (by rw [zI1]; omega), zI1] at b
  rw [Int32.le_iff_toInt_le]
  omega
theorem zdate_cases (tb : Nat → Int32) (L : Nat) (K : zCs) (t : zTk) : (∃ f, zqE tb L (zqN tb L 1 99 (zqW tb L zS12 (zqN tb L (zleast K) 49 (if K.D < 3 then .inr (zNx tb L t) else .inl t.1)))) = .inl f ∧ zrdateF tb L K t = .inl f) ∨ (K.D < 3 ∧ znok tb (zNx tb L t) (zleast K) 49 ∧ zisN tb (zNx tb L (zNx tb L t)) zS12 ∧ znok tb (zNx tb L (zNx tb L (zNx tb L t))) 1 99 ∧ zqE tb L (zqN tb L 1 99 (zqW tb L zS12 (zqN tb L (zleast K) 49 (if K.D < 3 then .inr (zNx tb L t) else .inl t.1)))) = .inr (zNx tb L (zNx tb L (zNx tb L (zNx tb L (zNx tb L t))))) ∧ zrdateF tb L K t = .inr (K.addD (znum tb (zNx tb L t)) (znum tb (zNx tb L (zNx tb L (zNx tb L t)))), zNx tb L (zNx tb L (zNx tb L (zNx tb L (zNx tb L t)))))) := by
  unfold zrdateF zrdate1 zrdate2 zrdate3 zendF
  by_cases h1 : K.D < 3
  · rw [if_pos h1, if_pos h1]
    by_cases h2 : znok tb (zNx tb L t) (zleast K) 49
    · rw [if_pos h2, show zqN tb L (zleast K) 49 (.inr (zNx tb L t)) = _ from if_pos h2]
      by_cases h3 : zisN tb (zNx tb L (zNx tb L t)) zS12
      · rw [if_pos h3, show zqW tb L zS12 (.inr (zNx tb L (zNx tb L t))) = _ from if_pos h3]
        by_cases h4 : znok tb (zNx tb L (zNx tb L (zNx tb L t))) 1 99
        · rw [if_pos h4, show zqN tb L 1 99 (.inr (zNx tb L (zNx tb L (zNx tb L t)))) = _ from if_pos h4]
          by_cases h5 : zisS tb (zNx tb L (zNx tb L (zNx tb L (zNx tb L t)))) 59
          · rw [if_pos h5, show zqE tb L (.inr (zNx tb L (zNx tb L (zNx tb L (zNx tb L t))))) = _ from if_pos h5]
            exact Or.inr ⟨h1, h2, h3, h4, rfl, rfl⟩
          · rw [if_neg h5, show zqE tb L (.inr (zNx tb L (zNx tb L (zNx tb L (zNx tb L t))))) = _ from if_neg h5]
            exact Or.inl ⟨_, rfl, rfl⟩
        · rw [if_neg h4, show zqN tb L 1 99 (.inr (zNx tb L (zNx tb L (zNx tb L t)))) = _ from if_neg h4]
          exact Or.inl ⟨_, rfl, rfl⟩
      · rw [if_neg h3, show zqW tb L zS12 (.inr (zNx tb L (zNx tb L t))) = _ from if_neg h3]
        exact Or.inl ⟨_, rfl, rfl⟩
    · rw [if_neg h2, show zqN tb L (zleast K) 49 (.inr (zNx tb L t)) = _ from if_neg h2]
      exact Or.inl ⟨_, rfl, rfl⟩
  · rw [if_neg h1, if_neg h1]
    exact Or.inl ⟨_, rfl, rfl⟩
set_option maxRecDepth 20000 in
set_option maxHeartbeats 1000000 in
theorem c_MwantLaw {S : Nat × (Nat → Int32)} {d n : Nat} {ξ : Nat → Nat → Int32} {ρ : zRho} {wd : Int64} {tb tu : Nat → Int32} {L : Nat} {t : zTk} (h : zMP ξ wd tb tu L t) {K : zCs} (hF : zMF ξ K) {l : Nat} (hl : l < 3) : Zc S (d + 5) jX6_wantLaw [.ref 42, .int (nI l)] (zWof n ξ (zρw ρ wd)) (fun r w => r = none ∧ ∃ ξ2 wd2, w = zWof n ξ2 (zρw ρ wd2) ∧ zMRs ξ2 wd2 tb tu L (zrlawF tb L K l t) ∧ zfrC ξ ξ2) := by
  refine Zc_in (q := (6, 0, 0, 1, 3, 0, 0, zk_X6_wantLaw)) rfl (Nat.le_of_ble_eq_true rfl) (L := [_, _, _]) rfl ?_
  refine zr_aload_n 1 rfl rfl rfl trivial ?_
  refine zr_callv 4 (As := []) (u2 := (0, 0)) rfl rfl rfl rfl rfl rfl rfl (Nat.le_of_ble_eq_true rfl) (Nat.le_of_ble_eq_true rfl) (Nat.le_of_ble_eq_true rfl) rfl (c_Madvance (ξ := ξ) (ρ := zρw ρ wd) h.1 h.2.1 h.2.2.2.1 h.2.2.2.2.2.1 h.2.2.2.2.2.2.1.2.1 h.2.2.2.2.2.2.2.1) rfl (fun v2 w2 h1z => ?_)
  obtain ⟨rfl, ξ1, wd1, rfl, mp1, fp1⟩ := h1z
  refine zr_aload_n 5 rfl rfl rfl trivial ?_
  refine zr_getf 8 rfl rfl rfl rfl rfl ?_
  refine zr_istore_n 9 (L2 := [_, _, _]) rfl rfl (Nat.le_of_ble_eq_true rfl) (by first | exact trivial | exact rfl) rfl ?_
  refine zr_aload_n 10 rfl rfl rfl trivial ?_
  refine zr_aload_n 11 rfl rfl rfl trivial ?_
  refine zr_getf 14 rfl rfl rfl rfl rfl ?_
  refine zr_iconst 15 (x := 2) rfl rfl (by decide) ?_
  refine zr_icmp_ne 30 18 rfl rfl (by decide) (fun c15z => ?_) (fun c15z => ?_)
  · rw [mp1.2.2.2.2.1] at c15z
    refine zr_iconst 31 (x := 0) rfl rfl (by decide) ?_
    refine zr_putf 34 rfl rfl rfl rfl (Nat.le_of_ble_eq_true rfl) rfl (by first | exact Or.inl rfl | exact Or.inr rfl | assumption) (fun h => by cases h) (zW_set (k := 19) (v := 0) rfl) ?_
    refine zr_aload_n 35 rfl rfl rfl trivial ?_
    refine zr_getf 38 rfl rfl rfl rfl rfl ?_
    refine zr_if_eq 45 41 rfl rfl (by decide) (fun c38z => ?_) (fun c38z => ?_)
    · refine zr_aload_n 46 rfl rfl rfl trivial ?_
      refine zr_callv 49 (As := []) (u2 := (0, 0)) rfl rfl rfl rfl rfl rfl rfl (Nat.le_of_ble_eq_true rfl) (Nat.le_of_ble_eq_true rfl) (Nat.le_of_ble_eq_true rfl) rfl (c_MwantEnd (ρ := ρ) (ξ := zu ξ1 42 19 0) (wd := wd1) (tb := tb) (tu := tu) (L := L) (s := .inl (zNx tb L t).1) ⟨zu_same _ _ _ _, mp1.2.2.1⟩) rfl (fun v2 w2 h46z => ?_)
      obtain ⟨rfl, ξ2, wd2, rfl, m2, f2⟩ := h46z
      refine zr_aload_n 50 rfl rfl rfl trivial ?_
      refine zr_getf 53 rfl rfl rfl rfl rfl ?_
      refine zr_if_eq 63 56 rfl rfl (by decide) (fun c53z => ?_) (fun c53z => ?_)
      · refine zr_ret rfl rfl ?_
        refine ⟨rfl, ξ2, wd2, rfl, ?_, ((fp1.q.u19 0).tr f2).c⟩
        rw [show zrlawF tb L K l t = _ from if_neg (fun z => c15z z.1)]
        exact m2
      · exact absurd m2.1 c53z
    · exact absurd rfl c38z
  · rw [mp1.2.2.2.2.1] at c15z
    have ev := mp1.2.2.2.2.2.2.2.2.2.1 c15z
    refine zr_iload_n 19 rfl rfl rfl ?_
    refine zr_iload_n 20 rfl rfl rfl ?_
    refine zr_calls 23 (As := [_, _]) (u2 := (0, 0)) rfl rfl rfl rfl rfl rfl rfl (Nat.le_of_ble_eq_true rfl) (Nat.le_of_ble_eq_true rfl) (Nat.le_of_ble_eq_true rfl) (c_MisLaw _ _) rfl (fun v2 w2 h20z => ?_)
    obtain ⟨rfl, rfl⟩ := h20z
    refine zr_if_eq 30 26 rfl rfl (by decide) (fun c23z => ?_) (fun c23z => ?_)
    · replace c23z := zb_0.mp c23z
      rw [zlok_3 hl, ev, znum_v c15z (zllo_0 hl)] at c23z
      refine zr_iconst 31 (x := 0) rfl rfl (by decide) ?_
      refine zr_putf 34 rfl rfl rfl rfl (Nat.le_of_ble_eq_true rfl) rfl (by first | exact Or.inl rfl | exact Or.inr rfl | assumption) (fun h => by cases h) (zW_set (k := 19) (v := 0) rfl) ?_
      refine zr_aload_n 35 rfl rfl rfl trivial ?_
      refine zr_getf 38 rfl rfl rfl rfl rfl ?_
      refine zr_if_eq 45 41 rfl rfl (by decide) (fun c38z => ?_) (fun c38z => ?_)
      · refine zr_aload_n 46 rfl rfl rfl trivial ?_
        refine zr_callv 49 (As := []) (u2 := (0, 0)) rfl rfl rfl rfl rfl rfl rfl (Nat.le_of_ble_eq_true rfl) (Nat.le_of_ble_eq_true rfl) (Nat.le_of_ble_eq_true rfl) rfl (c_MwantEnd (ρ := ρ) (ξ := zu ξ1 42 19 0) (wd := wd1) (tb := tb) (tu := tu) (L := L) (s := .inl (zNx tb L t).1) ⟨zu_same _ _ _ _, mp1.2.2.1⟩) rfl (fun v2 w2 h46z => ?_)
        obtain ⟨rfl, ξ2, wd2, rfl, m2, f2⟩ := h46z
        refine zr_aload_n 50 rfl rfl rfl trivial ?_
        refine zr_getf 53 rfl rfl rfl rfl rfl ?_
        refine zr_if_eq 63 56 rfl rfl (by decide) (fun c53z => ?_) (fun c53z => ?_)
        · refine zr_ret rfl rfl ?_
          refine ⟨rfl, ξ2, wd2, rfl, ?_, ((fp1.q.u19 0).tr f2).c⟩
          rw [show zrlawF tb L K l t = _ from if_neg c23z]
          exact m2
        · exact absurd m2.1 c53z
      · exact absurd rfl c38z
    · replace c23z := zb_n0.mp c23z
      rw [zlok_3 hl, ev, znum_v c15z (zllo_0 hl)] at c23z
      refine zr_iconst 27 (x := 1) rfl rfl (by decide) ?_
      refine zr_goto 31 rfl (by decide) ?_
      refine zr_putf 34 rfl rfl rfl rfl (Nat.le_of_ble_eq_true rfl) rfl (by first | exact Or.inl rfl | exact Or.inr rfl | assumption) (fun h => by cases h) (zW_set (k := 19) (v := 1) rfl) ?_
      refine zr_aload_n 35 rfl rfl rfl trivial ?_
      refine zr_getf 38 rfl rfl rfl rfl rfl ?_
      refine zr_if_eq 45 41 rfl rfl (by decide) (fun c38z => ?_) (fun c38z => ?_)
      · exact absurd (show (1 : Int32) = 0 from c38z) (by decide)
      · refine zr_aload_n 42 rfl rfl rfl trivial ?_
        refine zr_callv 45 (As := []) (u2 := (0, 0)) rfl rfl rfl rfl rfl rfl rfl (Nat.le_of_ble_eq_true rfl) (Nat.le_of_ble_eq_true rfl) (Nat.le_of_ble_eq_true rfl) rfl (c_Madvance (ξ := zu ξ1 42 19 1) (ρ := zρw ρ wd1) mp1.1 mp1.2.1 mp1.2.2.2.1 mp1.2.2.2.2.2.1 mp1.2.2.2.2.2.2.1.2.1 mp1.2.2.2.2.2.2.2.1) rfl (fun v2 w2 h42z => ?_)
        obtain ⟨rfl, ξ2, wd2, rfl, mp2, fp2⟩ := h42z
        have mq2 := zMP.adv fp2 mp2 (zu_same _ _ _ _)
        refine zr_aload_n 46 rfl rfl rfl trivial ?_
        refine zr_callv 49 (As := []) (u2 := (0, 0)) rfl rfl rfl rfl rfl rfl rfl (Nat.le_of_ble_eq_true rfl) (Nat.le_of_ble_eq_true rfl) (Nat.le_of_ble_eq_true rfl) rfl (c_MwantEnd (ρ := ρ) mq2) rfl (fun v2 w2 h46z => ?_)
        obtain ⟨rfl, ξ3, wd3, rfl, m3, f3⟩ := h46z
        have fq := ((fp1.q.u19 1).tr fp2.q).tr f3
        by_cases hz : zisS tb (zNx tb L (zNx tb L t)) 59
        · rw [show zqE tb L (.inr (zNx tb L (zNx tb L t))) = _ from if_pos hz] at m3
          refine zr_aload_n 50 rfl rfl rfl trivial ?_
          refine zr_getf 53 rfl rfl rfl rfl rfl ?_
          refine zr_if_eq 63 56 rfl rfl (by decide) (fun c53z => ?_) (fun c53z => ?_)
          · exact absurd (m3.1.symm.trans c53z) (by decide)
          · refine zr_aload_n 57 rfl rfl rfl trivial ?_
            refine zr_getf 60 rfl rfl rfl rfl rfl ?_
            refine zr_iload_n 61 rfl rfl rfl ?_
            refine zr_iload_n 62 rfl rfl rfl ?_
            refine zr_iast 63 rfl rfl rfl (nI_clamp (by omega)) (vp_in_nI (by omega) (by omega)) (zW_set rfl) ?_
            refine zr_ret rfl rfl ?_
            refine ⟨rfl, zu ξ3 52 l (ξ1 42 18), wd3, rfl, ?_, fq.c.u 52 l _ (by omega)⟩
            rw [show zrlawF tb L K l t = _ from (if_pos c23z).trans (if_pos hz)]
            refine ⟨m3, ?_⟩
            rw [show ξ1 42 18 = znum tb (zNx tb L t) by rw [ev, if_pos c23z.2.1]]
            exact (hF.fr fq).slaw l _
        · rw [show zqE tb L (.inr (zNx tb L (zNx tb L t))) = _ from if_neg hz] at m3
          refine zr_aload_n 50 rfl rfl rfl trivial ?_
          refine zr_getf 53 rfl rfl rfl rfl rfl ?_
          refine zr_if_eq 63 56 rfl rfl (by decide) (fun c53z => ?_) (fun c53z => ?_)
          · refine zr_ret rfl rfl ?_
            refine ⟨rfl, ξ3, wd3, rfl, ?_, fq.c⟩
            rw [show zrlawF tb L K l t = _ from (if_pos c23z).trans (if_neg hz)]
            exact m3
          · exact absurd m3.1 c53z
set_option maxRecDepth 20000 in
set_option maxHeartbeats 1000000 in
theorem c_MwantDate {S : Nat × (Nat → Int32)} {d n : Nat} {ξ : Nat → Nat → Int32} {ρ : zRho} {wd : Int64} {tb tu : Nat → Int32} {L : Nat} {t : zTk} (h : zMP ξ wd tb tu L t) {K : zCs} (hF : zMF ξ K) (hP : zPk K) : Zc S (d + 5) jX6_wantDate [.ref 42] (zWof n ξ (zρw ρ wd)) (fun r w => r = none ∧ ∃ ξ2 wd2, w = zWof n ξ2 (zρw ρ wd2) ∧ zMRs ξ2 wd2 tb tu L (zrdateF tb L K t) ∧ zfrC ξ ξ2) := by
  have hD3 := hF.2.2.2.2.2.2.2.1
  refine Zc_in (q := (6, 0, 0, 0, 3, 0, 0, zk_X6_wantDate)) rfl (Nat.le_of_ble_eq_true rfl) (L := [_, _, _]) rfl ?_
  have key : ∀ (ξ1 : Nat → Nat → Int32) (wd1 : Int64), zMQ ξ1 wd1 tb tu L (if K.D < 3 then .inr (zNx tb L t) else .inl t.1) → zfrQ ξ ξ1 →  Zw S (Zc S (d + 4)) 6 false 0 zk_X6_wantDate (fun r w => r = none ∧ ∃ ξ2 wd2, w = zWof n ξ2 (zρw ρ wd2) ∧ zMRs ξ2 wd2 tb tu L (zrdateF tb L K t) ∧ zfrC ξ ξ2) (28, [some (.ref 42), none, none], [], (0, 0), zWof n ξ1 (zρw ρ wd1)) := by
    intro ξ1 wd1 m1 f1
    have g1 := hF.fr f1
    have e21 : ξ1 42 21 = nI K.D := g1.2.1
    refine zr_aload_n 29 rfl rfl rfl trivial ?_
    refine zr_aload_n 30 rfl rfl rfl trivial ?_
    refine zr_getf 33 rfl rfl rfl rfl rfl ?_
    refine zr_if_ne 40 36 rfl rfl (by decide) (fun c33z => ?_) (fun c33z => ?_)
    · have hD0 : 0 < K.D := Nat.pos_of_ne_zero (fun q => c33z (by rw [e21, q]; rfl))
      obtain ⟨D2, hD2⟩ : ∃ z, K.D = z + 1 := ⟨K.D - 1, by omega⟩
      have hle : ξ1 57 D2 + 1 = zleast K := by
        unfold zleast
        rw [if_pos hD0, hD2, g1.2.2.2.1 D2 (by omega)]
        rfl
      refine zr_aload_n 41 rfl rfl rfl trivial ?_
      refine zr_getf 44 rfl rfl rfl rfl rfl ?_
      refine zr_aload_n 45 rfl rfl rfl trivial ?_
      refine zr_getf 48 rfl rfl rfl rfl rfl ?_
      refine zr_if_ne 55 51 rfl rfl (by decide) (fun c48z => ?_) (fun c48z => ?_)
      · refine zr_aload_n 56 rfl rfl rfl trivial ?_
        refine zr_getf 59 rfl rfl rfl rfl rfl ?_
        refine zr_iconst 60 (x := 1) rfl rfl (by decide) ?_
        refine zr_isub 61 rfl rfl ?_
        rw [e21, hD2, nI_pred]
        refine zr_iald 62 rfl rfl rfl (nI_clamp (by omega)) (vp_in_nI (by omega) (by omega)) ?_
        refine zr_iconst 63 (x := 1) rfl rfl (by decide) ?_
        refine zr_iadd 64 rfl rfl ?_
        rw [hle]
        refine zr_bipush 66 (x := 49) rfl rfl (by decide) ?_
        refine zr_callv 69 (As := [_, _]) (u2 := (0, 0)) rfl rfl rfl rfl rfl rfl rfl (Nat.le_of_ble_eq_true rfl) (Nat.le_of_ble_eq_true rfl) (Nat.le_of_ble_eq_true rfl) rfl (c_MwantNumber (ρ := ρ) m1 (zleast K) 49 (zleast_0 hP)) rfl (fun v2 w2 h66z => ?_)
        obtain ⟨v1, rfl, w1, ξ2, wd2, rfl, m2, f2⟩ := h66z
        refine zr_istore_n 70 (L2 := [_, _, _]) rfl rfl (Nat.le_of_ble_eq_true rfl) (by first | exact trivial | exact rfl) rfl ?_
        refine zr_aload_n 71 rfl rfl rfl trivial ?_
        refine zr_ldc2_w 74 rfl rfl rfl ?_
        refine zr_callv 77 (As := [_]) (u2 := (0, 0)) rfl rfl rfl rfl rfl rfl rfl (Nat.le_of_ble_eq_true rfl) (Nat.le_of_ble_eq_true rfl) (Nat.le_of_ble_eq_true rfl) rfl (c_MwantWord (ρ := ρ) m2 zww_12) rfl (fun v2 w2 h74z => ?_)
        obtain ⟨rfl, ξ3, wd3, rfl, m3, f3⟩ := h74z
        refine zr_aload_n 78 rfl rfl rfl trivial ?_
        refine zr_iconst 79 (x := 1) rfl rfl (by decide) ?_
        refine zr_bipush 81 (x := 99) rfl rfl (by decide) ?_
        refine zr_callv 84 (As := [_, _]) (u2 := (0, 0)) rfl rfl rfl rfl rfl rfl rfl (Nat.le_of_ble_eq_true rfl) (Nat.le_of_ble_eq_true rfl) (Nat.le_of_ble_eq_true rfl) rfl (c_MwantNumber (ρ := ρ) m3 1 99 (by decide)) rfl (fun v2 w2 h81z => ?_)
        obtain ⟨v2, rfl, w2, ξ4, wd4, rfl, m4, f4⟩ := h81z
        refine zr_istore_n 85 (L2 := [_, _, _]) rfl rfl (Nat.le_of_ble_eq_true rfl) (by first | exact trivial | exact rfl) rfl ?_
        refine zr_aload_n 86 rfl rfl rfl trivial ?_
        refine zr_callv 89 (As := []) (u2 := (0, 0)) rfl rfl rfl rfl rfl rfl rfl (Nat.le_of_ble_eq_true rfl) (Nat.le_of_ble_eq_true rfl) (Nat.le_of_ble_eq_true rfl) rfl (c_MwantEnd (ρ := ρ) m4) rfl (fun v2 w2 h86z => ?_)
        obtain ⟨rfl, ξ5, wd5, rfl, m5, f5⟩ := h86z
        have fq : zfrQ ξ ξ5 := ((((f1.tr f2).tr f3).tr f4).tr f5)
        have g5 := hF.fr fq
        have e5 : ξ5 42 21 = nI K.D := g5.2.1
        rcases zdate_cases tb L K t with ⟨f, q1, q2⟩ | ⟨h1, h2, h3, h4, q1, q2⟩
        · rw [q1] at m5
          refine zr_aload_n 90 rfl rfl rfl trivial ?_
          refine zr_getf 93 rfl rfl rfl rfl rfl ?_
          refine zr_if_eq 126 96 rfl rfl (by decide) (fun c93z => ?_) (fun c93z => ?_)
          · refine zr_ret rfl rfl ?_
            refine ⟨rfl, ξ5, wd5, rfl, ?_, fq.c⟩
            rw [q2]
            exact m5
          · exact absurd m5.1 c93z
        · have e1 := w1 (zNx tb L t) (if_pos h1) h2
          have e2 := w2 (zNx tb L (zNx tb L (zNx tb L t))) (by rw [if_pos h1, show zqN tb L (zleast K) 49 (.inr (zNx tb L t)) = _ from if_pos h2, show zqW tb L zS12 (.inr (zNx tb L (zNx tb L t))) = _ from if_pos h3]) h4
          rw [q1] at m5
          refine zr_aload_n 90 rfl rfl rfl trivial ?_
          refine zr_getf 93 rfl rfl rfl rfl rfl ?_
          refine zr_if_eq 126 96 rfl rfl (by decide) (fun c93z => ?_) (fun c93z => ?_)
          · exact absurd (m5.1.symm.trans c93z) (by decide)
          · refine zr_aload_n 97 rfl rfl rfl trivial ?_
            refine zr_getf 100 rfl rfl rfl rfl rfl ?_
            refine zr_aload_n 101 rfl rfl rfl trivial ?_
            refine zr_getf 104 rfl rfl rfl rfl rfl ?_
            rw [e5]
            refine zr_iload_n 105 rfl rfl rfl ?_
            refine zr_iast 106 rfl rfl rfl (nI_clamp (by omega)) (vp_in_nI (by omega) (by omega)) (zW_set rfl) ?_
            refine zr_aload_n 107 rfl rfl rfl trivial ?_
            refine zr_getf 110 rfl rfl rfl rfl rfl ?_
            refine zr_aload_n 111 rfl rfl rfl trivial ?_
            refine zr_getf 114 rfl rfl rfl rfl rfl ?_
            rw [show zu ξ5 57 K.D v1 42 21 = nI K.D from e5]
            refine zr_iload_n 115 rfl rfl rfl ?_
            refine zr_iast 116 rfl rfl rfl (nI_clamp (by omega)) (vp_in_nI (by omega) (by omega)) (zW_set rfl) ?_
            refine zr_aload_n 117 rfl rfl rfl trivial ?_
            refine zr_dup 118 rfl rfl rfl ?_
            refine zr_getf 121 rfl rfl rfl rfl rfl ?_
            refine zr_iconst 122 (x := 1) rfl rfl (by decide) ?_
            refine zr_iadd 123 rfl rfl ?_
            refine zr_putf 126 rfl rfl rfl rfl (Nat.le_of_ble_eq_true rfl) rfl trivial (fun h => by cases h) (zW_set (k := 21) rfl) ?_
            refine zr_ret rfl rfl ?_
            refine ⟨rfl, _, wd5, rfl, ?_, ((fq.c.u 57 _ _ (by omega)).u 58 _ _ (by omega)).u 42 21 _ (by omega)⟩
            rw [q2]
            refine ⟨m5, ?_⟩
            rw [← e1, ← e2]
            exact g5.addD h1 (fun z => zleast_le hP (by rw [e1]; exact h2.2.2.1) z) (show ξ5 42 21 + 1 = _ by rw [e5, nI_1])
      · exact absurd c48z c33z
    · have hD0 : K.D = 0 := (nI_eq (b := 0) (by omega) (by decide)).mp (e21.symm.trans c33z)
      have hle : (0 : Int32) = zleast K := by
        unfold zleast
        rw [if_neg (by omega)]
      refine zr_iconst 37 (x := 0) rfl rfl (by decide) ?_
      refine zr_goto 64 rfl (by decide) ?_
      rw [hle]
      refine zr_bipush 66 (x := 49) rfl rfl (by decide) ?_
      refine zr_callv 69 (As := [_, _]) (u2 := (0, 0)) rfl rfl rfl rfl rfl rfl rfl (Nat.le_of_ble_eq_true rfl) (Nat.le_of_ble_eq_true rfl) (Nat.le_of_ble_eq_true rfl) rfl (c_MwantNumber (ρ := ρ) m1 (zleast K) 49 (zleast_0 hP)) rfl (fun v2 w2 h66z => ?_)
      obtain ⟨v1, rfl, w1, ξ2, wd2, rfl, m2, f2⟩ := h66z
      refine zr_istore_n 70 (L2 := [_, _, _]) rfl rfl (Nat.le_of_ble_eq_true rfl) (by first | exact trivial | exact rfl) rfl ?_
      refine zr_aload_n 71 rfl rfl rfl trivial ?_
      refine zr_ldc2_w 74 rfl rfl rfl ?_
      refine zr_callv 77 (As := [_]) (u2 := (0, 0)) rfl rfl rfl rfl rfl rfl rfl (Nat.le_of_ble_eq_true rfl) (Nat.le_of_ble_eq_true rfl) (Nat.le_of_ble_eq_true rfl) rfl (c_MwantWord (ρ := ρ) m2 zww_12) rfl (fun v2 w2 h74z => ?_)
      obtain ⟨rfl, ξ3, wd3, rfl, m3, f3⟩ := h74z
      refine zr_aload_n 78 rfl rfl rfl trivial ?_
      refine zr_iconst 79 (x := 1) rfl rfl (by decide) ?_
      refine zr_bipush 81 (x := 99) rfl rfl (by decide) ?_
      refine zr_callv 84 (As := [_, _]) (u2 := (0, 0)) rfl rfl rfl rfl rfl rfl rfl (Nat.le_of_ble_eq_true rfl) (Nat.le_of_ble_eq_true rfl) (Nat.le_of_ble_eq_true rfl) rfl (c_MwantNumber (ρ := ρ) m3 1 99 (by decide)) rfl (fun v2 w2 h81z => ?_)
      obtain ⟨v2, rfl, w2, ξ4, wd4, rfl, m4, f4⟩ := h81z
      refine zr_istore_n 85 (L2 := [_, _, _]) rfl rfl (Nat.le_of_ble_eq_true rfl) (by first | exact trivial | exact rfl) rfl ?_
      refine zr_aload_n 86 rfl rfl rfl trivial ?_
      refine zr_callv 89 (As := []) (u2 := (0, 0)) rfl rfl rfl rfl rfl rfl rfl (Nat.le_of_ble_eq_true rfl) (Nat.le_of_ble_eq_true rfl) (Nat.le_of_ble_eq_true rfl) rfl (c_MwantEnd (ρ := ρ) m4) rfl (fun v2 w2 h86z => ?_)
      obtain ⟨rfl, ξ5, wd5, rfl, m5, f5⟩ := h86z
      have fq : zfrQ ξ ξ5 := ((((f1.tr f2).tr f3).tr f4).tr f5)
      have g5 := hF.fr fq
      have e5 : ξ5 42 21 = nI K.D := g5.2.1
      rcases zdate_cases tb L K t with ⟨f, q1, q2⟩ | ⟨h1, h2, h3, h4, q1, q2⟩
      · rw [q1] at m5
        refine zr_aload_n 90 rfl rfl rfl trivial ?_
        refine zr_getf 93 rfl rfl rfl rfl rfl ?_
        refine zr_if_eq 126 96 rfl rfl (by decide) (fun c93z => ?_) (fun c93z => ?_)
        · refine zr_ret rfl rfl ?_
          refine ⟨rfl, ξ5, wd5, rfl, ?_, fq.c⟩
          rw [q2]
          exact m5
        · exact absurd m5.1 c93z
      · have e1 := w1 (zNx tb L t) (if_pos h1) h2
        have e2 := w2 (zNx tb L (zNx tb L (zNx tb L t))) (by rw [if_pos h1, show zqN tb L (zleast K) 49 (.inr (zNx tb L t)) = _ from if_pos h2, show zqW tb L zS12 (.inr (zNx tb L (zNx tb L t))) = _ from if_pos h3]) h4
        rw [q1] at m5
        refine zr_aload_n 90 rfl rfl rfl trivial ?_
        refine zr_getf 93 rfl rfl rfl rfl rfl ?_
        refine zr_if_eq 126 96 rfl rfl (by decide) (fun c93z => ?_) (fun c93z => ?_)
        · exact absurd (m5.1.symm.trans c93z) (by decide)
        · refine zr_aload_n 97 rfl rfl rfl trivial ?_
          refine zr_getf 100 rfl rfl rfl rfl rfl ?_
          refine zr_aload_n 101 rfl rfl rfl trivial ?_
          refine zr_getf 104 rfl rfl rfl rfl rfl ?_
          rw [e5]
          refine zr_iload_n 105 rfl rfl rfl ?_
          refine zr_iast 106 rfl rfl rfl (nI_clamp (by omega)) (vp_in_nI (by omega) (by omega)) (zW_set rfl) ?_
          refine zr_aload_n 107 rfl rfl rfl trivial ?_
          refine zr_getf 110 rfl rfl rfl rfl rfl ?_
          refine zr_aload_n 111 rfl rfl rfl trivial ?_
          refine zr_getf 114 rfl rfl rfl rfl rfl ?_
          rw [show zu ξ5 57 K.D v1 42 21 = nI K.D from e5]
          refine zr_iload_n 115 rfl rfl rfl ?_
          refine zr_iast 116 rfl rfl rfl (nI_clamp (by omega)) (vp_in_nI (by omega) (by omega)) (zW_set rfl) ?_
          refine zr_aload_n 117 rfl rfl rfl trivial ?_
          refine zr_dup 118 rfl rfl rfl ?_
          refine zr_getf 121 rfl rfl rfl rfl rfl ?_
          refine zr_iconst 122 (x := 1) rfl rfl (by decide) ?_
          refine zr_iadd 123 rfl rfl ?_
          refine zr_putf 126 rfl rfl rfl rfl (Nat.le_of_ble_eq_true rfl) rfl trivial (fun h => by cases h) (zW_set (k := 21) rfl) ?_
          refine zr_ret rfl rfl ?_
          refine ⟨rfl, _, wd5, rfl, ?_, ((fq.c.u 57 _ _ (by omega)).u 58 _ _ (by omega)).u 42 21 _ (by omega)⟩
          rw [q2]
          refine ⟨m5, ?_⟩
          rw [← e1, ← e2]
          exact g5.addD h1 (fun z => zleast_le hP (by rw [e1]; exact h2.2.2.1) z) (show ξ5 42 21 + 1 = _ by rw [e5, nI_1])
  refine zr_aload_n 1 rfl rfl rfl trivial ?_
  refine zr_aload_n 2 rfl rfl rfl trivial ?_
  refine zr_getf 5 rfl rfl rfl rfl rfl ?_
  refine zr_iconst 6 (x := 3) rfl rfl (by decide) ?_
  refine zr_icmp_ge 13 9 rfl rfl (by decide) (fun c6z => ?_) (fun c6z => ?_)
  · rw [hF.2.1, show (3 : Int32) = nI 3 from rfl, nI_leI (by decide) (by omega)] at c6z
    refine zr_iconst 14 (x := 0) rfl rfl (by decide) ?_
    refine zr_putf 17 rfl rfl rfl rfl (Nat.le_of_ble_eq_true rfl) rfl (by first | exact Or.inl rfl | exact Or.inr rfl | assumption) (fun h => by cases h) (zW_set (k := 19) (v := 0) rfl) ?_
    refine zr_aload_n 18 rfl rfl rfl trivial ?_
    refine zr_getf 21 rfl rfl rfl rfl rfl ?_
    refine zr_if_eq 28 24 rfl rfl (by decide) (fun c21z => ?_) (fun c21z => ?_)
    · refine key _ wd ?_ ((zfrQ.rf ξ).u19 0)
      rw [if_neg (by omega)]
      exact ⟨zu_same _ _ _ _, h.2.2.1⟩
    · exact absurd rfl c21z
  · rw [hF.2.1, show (3 : Int32) = nI 3 from rfl, nI_leI (by decide) (by omega)] at c6z
    refine zr_iconst 10 (x := 1) rfl rfl (by decide) ?_
    refine zr_goto 14 rfl (by decide) ?_
    refine zr_putf 17 rfl rfl rfl rfl (Nat.le_of_ble_eq_true rfl) rfl (by first | exact Or.inl rfl | exact Or.inr rfl | assumption) (fun h => by cases h) (zW_set (k := 19) (v := 1) rfl) ?_
    refine zr_aload_n 18 rfl rfl rfl trivial ?_
    refine zr_getf 21 rfl rfl rfl rfl rfl ?_
    refine zr_if_eq 28 24 rfl rfl (by decide) (fun c21z => ?_) (fun c21z => ?_)
    · exact absurd (show (1 : Int32) = 0 from c21z) (by decide)
    · refine zr_aload_n 25 rfl rfl rfl trivial ?_
      refine zr_callv 28 (As := []) (u2 := (0, 0)) rfl rfl rfl rfl rfl rfl rfl (Nat.le_of_ble_eq_true rfl) (Nat.le_of_ble_eq_true rfl) (Nat.le_of_ble_eq_true rfl) rfl (c_Madvance (ξ := zu ξ 42 19 1) (ρ := zρw ρ wd) h.1 h.2.1 h.2.2.2.1 h.2.2.2.2.2.1 h.2.2.2.2.2.2.1.2.1 h.2.2.2.2.2.2.2.1) rfl (fun v2 w2 h25z => ?_)
      obtain ⟨rfl, ξ2, wd2, rfl, mp2, fp2⟩ := h25z
      refine key ξ2 wd2 ?_ (((zfrQ.rf ξ).u19 1).tr fp2.q)
      rw [if_pos (by omega)]
      exact zMP.adv fp2 mp2 (zu_same _ _ _ _)
