/-! whole numbers behind Int32, where nothing wraps -/
theorem zTadd {x y : Int32} (h1 : -1000000 ≤ x.toInt + y.toInt) (h2 : x.toInt + y.toInt ≤ 1000000) : (x + y).toInt = x.toInt + y.toInt := by
  rw [Int32.toInt_add]
  exact Int.bmod_eq_of_le (by omega) (by omega)
theorem zTsub {x y : Int32} (h1 : -1000000 ≤ x.toInt - y.toInt) (h2 : x.toInt - y.toInt ≤ 1000000) : (x - y).toInt = x.toInt - y.toInt := by
  rw [Int32.toInt_sub]
  exact Int.bmod_eq_of_le (by omega) (by omega)
theorem zTmul {x y : Int32} (h1 : -1000000 ≤ x.toInt * y.toInt) (h2 : x.toInt * y.toInt ≤ 1000000) : (x * y).toInt = x.toInt * y.toInt := by
  rw [Int32.toInt_mul]
  exact Int.bmod_eq_of_le (by omega) (by omega)
theorem zTdiv {x y : Int32} (h1 : 0 ≤ x.toInt) (h2 : 0 < y.toInt) : (x / y).toInt = x.toInt / y.toInt := by
  have hx : x.toInt < 2147483648 := Int32.toInt_lt x
  rw [Int32.toInt_div, Int.tdiv_eq_ediv_of_nonneg h1]
  have a1 : 0 ≤ x.toInt / y.toInt := Int.ediv_nonneg h1 (by omega)
  have a2 : x.toInt / y.toInt ≤ x.toInt := Int.ediv_le_self _ h1
  exact Int.bmod_eq_of_le (by omega) (by omega)
theorem zTmin (x y : Int32) : (zminI x y).toInt = min x.toInt y.toInt := by
  unfold zminI
  by_cases h : y < x
  · rw [if_pos h]
    have := Int32.lt_iff_toInt_lt.mp h
    omega
  · rw [if_neg h]
    have := Int32.le_iff_toInt_le.mp (Int32.not_lt.mp h)
    omega
theorem zL2 : (2 : Int32).toInt = 2 := by decide
theorem zL3 : (3 : Int32).toInt = 3 := by decide
theorem zL7 : (7 : Int32).toInt = 7 := by decide
theorem zL100 : (100 : Int32).toInt = 100 := by decide
theorem zgoalF_at {dd dp : Nat → Int32} {work done day : Int32} : ∀ (n i : Nat), zgoalF dd dp work done day n i < i + n → day ≤ dd (zgoalF dd dp work done day n i) ∧ done < work * dp (zgoalF dd dp work done day n i) / 100
  | 0, i, h => by
    unfold zgoalF at h
    omega
  | n + 1, i, h => by
    unfold zgoalF at h ⊢
    by_cases q : day ≤ dd i ∧ done < work * dp i / 100
    · rw [if_pos q]
      exact q
    · rw [if_neg q] at h ⊢
      exact zgoalF_at n (i + 1) (by omega)
theorem zpart_to {work part : Int32} (hw : 1 ≤ work.toInt ∧ work.toInt ≤ 99) (hp : 1 ≤ part.toInt ∧ part.toInt ≤ 99) : (work * part / 100).toInt = work.toInt * part.toInt / 100 ∧ 0 ≤ (work * part / 100).toInt ∧ (work * part / 100).toInt < work.toInt := by
  have b1 : work.toInt * part.toInt ≤ work.toInt * 99 := Int.mul_le_mul_of_nonneg_left hp.2 (by omega)
  have b0 : 0 ≤ work.toInt * part.toInt := Int.mul_nonneg (by omega) (by omega)
  have e1 : (work * part).toInt = work.toInt * part.toInt := zTmul (by omega) (by omega)
  have e2 : (work * part / 100).toInt = work.toInt * part.toInt / 100 := by
    rw [zTdiv (by rw [e1]; exact b0) (by rw [zL100]; decide), e1, zL100]
  rw [e2]
  refine ⟨rfl, ?_, ?_⟩ <;> omega
theorem ztogo_to {gd day : Int32} (h1 : 0 ≤ day.toInt) (h2 : day.toInt ≤ 60) (h3 : 0 ≤ gd.toInt) (h4 : gd.toInt ≤ 100) : 1 ≤ (ztogoF gd day).toInt ∧ (ztogoF gd day).toInt ≤ 101 := by
  have e1 : (gd - day).toInt = gd.toInt - day.toInt := zTsub (by omega) (by omega)
  have e2 : (gd - day + 1).toInt = gd.toInt - day.toInt + 1 := by rw [zTadd (by rw [e1, zI1]; omega) (by rw [e1, zI1]; omega), e1, zI1]
  unfold ztogoF
  by_cases q : 1 < gd - day + 1
  · rw [if_pos q]
    have := Int32.lt_iff_toInt_lt.mp q
    rw [e2, zI1] at this
    omega
  · rw [if_neg q, zI1]
    omega
theorem zwant_to {kind a most day left tg : Int32} (ha : 0 ≤ a.toInt ∧ a.toInt ≤ 9) (hm : 1 ≤ most.toInt ∧ most.toInt ≤ 12) (hl : 0 ≤ left.toInt ∧ left.toInt ≤ 99) (ht : 1 ≤ tg.toInt ∧ tg.toInt ≤ 101) : 0 ≤ (zwantF kind a most day left tg).toInt := by
  have ea : (a + 1).toInt = a.toInt + 1 := by rw [zTadd (by rw [zI1]; omega) (by rw [zI1]; omega), zI1]
  unfold zwantF
  split
  · split
    · decide
    · omega
  split
  · split
    · decide
    · omega
  split
  · have e1 : (2 * left).toInt = 2 * left.toInt := by rw [zTmul (by rw [zL2]; omega) (by rw [zL2]; omega), zL2]
    have e2 : (tg + 1).toInt = tg.toInt + 1 := by rw [zTadd (by rw [zI1]; omega) (by rw [zI1]; omega), zI1]
    have e3 : (2 * left / (tg + 1)).toInt = 2 * left.toInt / (tg.toInt + 1) := by rw [zTdiv (by omega) (by omega), e1, e2]
    have b0 : 0 ≤ 2 * left.toInt / (tg.toInt + 1) := Int.ediv_nonneg (by omega) (by omega)
    have b1 : 2 * left.toInt / (tg.toInt + 1) ≤ 2 * left.toInt := Int.ediv_le_self _ (by omega)
    rw [zTadd (by rw [e3, zI1]; omega) (by rw [e3, zI1]; omega), e3, zI1]
    omega
  split
  · have e1 : (left + tg).toInt = left.toInt + tg.toInt := zTadd (by omega) (by omega)
    have e2 : (left + tg - 1).toInt = left.toInt + tg.toInt - 1 := by rw [zTsub (by rw [e1, zI1]; omega) (by rw [e1, zI1]; omega), e1, zI1]
    rw [zTdiv (by omega) (by omega)]
    exact Int.ediv_nonneg (by omega) (by omega)
  split
  · split
    · decide
    · omega
  · omega
section ZOKD
variable {dd dp : Nat → Int32} {D : Nat} {due most kind a work ill : Int32}
theorem zhrs_to (hg : zgok dd D due) (hp : ∀ i, i < D → 1 ≤ (dp i).toInt ∧ (dp i).toInt ≤ 99) (hw : 1 ≤ work.toInt ∧ work.toInt ≤ 99) (ha : 0 ≤ a.toInt ∧ a.toInt ≤ 9) (hm : 1 ≤ most.toInt ∧ most.toInt ≤ 12) {done day : Int32} (hd : 0 ≤ day.toInt ∧ day.toInt ≤ 60) (h0 : 0 ≤ done.toInt) (h1 : done.toInt ≤ work.toInt) : 0 ≤ (zhrsF dd dp D due most kind a work done ill day).toInt ∧ (zhrsF dd dp D due most kind a work done ill day).toInt ≤ work.toInt - done.toInt := by
  unfold zhrsF
  split
  · rw [zI0]
    omega
  · have er : (work - done).toInt = work.toInt - done.toInt := zTsub (by omega) (by omega)
    have hl : 0 ≤ (zghrsF dp D work (zgoalF dd dp work done day D 0) - done).toInt ∧ (zghrsF dp D work (zgoalF dd dp work done day D 0) - done).toInt ≤ 99 := by
      unfold zghrsF
      split
      · have := zgoalF_at (dd := dd) (dp := dp) (work := work) (done := done) (day := day) D 0 (by omega)
        have b := zpart_to hw (hp (zgoalF dd dp work done day D 0) (by assumption))
        have c := Int32.lt_iff_toInt_lt.mp this.2
        rw [zTsub (by omega) (by omega)]
        omega
      · rw [er]
        omega
    have ht := ztogo_to hd.1 hd.2 (hg (zgoalF dd dp work done day D 0)).1 (hg (zgoalF dd dp work done day D 0)).2
    have hwt := zwant_to (kind := kind) (day := day) ha hm hl ht
    unfold zworkF
    rw [zTmin, zTmin, er]
    omega
theorem zdayS_ok (hg : zgok dd D due) (hp : ∀ i, i < D → 1 ≤ (dp i).toInt ∧ (dp i).toInt ≤ 99) (hw : 1 ≤ work.toInt ∧ work.toInt ≤ 99) (ha : 0 ≤ a.toInt ∧ a.toInt ≤ 9) (hm : 1 ≤ most.toInt ∧ most.toInt ≤ 12) {day : Nat} (hd : day < 60) {s : Int32 × Int32 × Int32} (hs : zsOK work s) : zsOK work (zdayS dd dp D due most kind a work ill day s) := by
  unfold zdayS
  by_cases q : s.2.1 = -9
  · rw [if_pos q]
    obtain ⟨s0, s1, s2⟩ := hs
    have ed : (nI day).toInt = day := nI_toInt (by omega)
    have hh := zhrs_to (kind := kind) (ill := ill) hg hp hw ha hm (done := s.1) (day := nI day) (by rw [ed]; omega) s0 s1
    have e : (zdoneF dd dp D due most kind a work s.1 ill (nI day)).toInt = s.1.toInt + (zhrsF dd dp D due most kind a work s.1 ill (nI day)).toInt := zTadd (by omega) (by omega)
    refine ⟨by show 0 ≤ (zdoneF _ _ _ _ _ _ _ _ _ _ _).toInt; omega, by show (zdoneF _ _ _ _ _ _ _ _ _ _ _).toInt ≤ _; omega, ?_⟩
    show (if _ then nI day else -9) = (-9 : Int32) ∨ (zdoneF dd dp D due most kind a work s.1 ill (nI day) = work ∧ 0 ≤ (if _ then nI day else (-9 : Int32)).toInt ∧ (if _ then nI day else (-9 : Int32)).toInt < 60)
    by_cases q2 : work ≤ zdoneF dd dp D due most kind a work s.1 ill (nI day)
    · right
      rw [if_pos q2]
      have := Int32.le_iff_toInt_le.mp q2
      exact ⟨Int32.toInt_inj.mp (by omega), by omega, by omega⟩
    · left
      rw [if_neg q2]
  · rw [if_neg q]
    exact hs
theorem zlvS_ok (hg : zgok dd D due) (hp : ∀ i, i < D → 1 ≤ (dp i).toInt ∧ (dp i).toInt ≤ 99) (hw : 1 ≤ work.toInt ∧ work.toInt ≤ 99) (ha : 0 ≤ a.toInt ∧ a.toInt ≤ 9) (hm : 1 ≤ most.toInt ∧ most.toInt ≤ 12) : ∀ (n day : Nat) (s : Int32 × Int32 × Int32), day + n ≤ 60 → zsOK work s → zsOK work (zlvS dd dp D due most kind a work ill n day s)
  | 0, _, _, _, hs => hs
  | n + 1, day, s, hd, hs => zlvS_ok hg hp hw ha hm n (day + 1) _ (by omega) (zdayS_ok hg hp hw ha hm (by omega) hs)
end ZOKD
theorem zOK.lv {K : zCs} (h : zOK K) {i : Nat} (hi : i < K.M) {n : Nat} (hn : K.T + n ≤ 60) : zsOK (K.p i 2) (K.lv i n K.T) := zlvS_ok h.gok h.hdp (h.hp i hi).h2 (h.hp i hi).h1 h.l1 n K.T _ hn (h.hp i hi).hs
theorem zpOK.put3 {f : Nat → Int32} (h : zpOK f) {s : Int32 × Int32 × Int32} (hs : zsOK (f 2) s) : zpOK (zput3 f s) := ⟨h.h0, h.h1, h.h2, hs⟩
theorem zOK.go {K : zCs} (h : zOK K) {E : Nat} (h1 : K.T ≤ E) (h2 : E ≤ 60) : zOK (K.go E) :=
  ⟨h.d3, h.m6, h2, h.l0, h.l1, h.l2, h.l3, h.l4, h.hdd, h.hds, h.hdp, fun i hi => (h.hp i hi).put3 (h.lv hi (by omega))⟩
theorem zOK.sz {K : zCs} (h : zOK K) (v : Int32) : zOK (K.sz v) := h
theorem zOK.sp {K : zCs} (h : zOK K) (i : Nat) {k : Nat} {v : Int32} (hv : i < K.M → zpOK (upd (K.p i) k v)) : zOK (K.sp i k v) :=
  ⟨h.d3, h.m6, h.t60, h.l0, h.l1, h.l2, h.l3, h.l4, h.hdd, h.hds, h.hdp, fun j hj => by
    show zpOK (if j = i then upd (K.p i) k v else K.p j)
    by_cases e : j = i
    · subst e
      rw [if_pos rfl]
      exact hv hj
    · rw [if_neg e]
      exact h.hp j hj⟩
theorem zpOK.kind {f : Nat → Int32} (h : zpOK f) {v : Int32} (hv : 0 ≤ v.toInt ∧ v.toInt ≤ 5) : zpOK (upd f 0 v) := ⟨hv, h.h1, h.h2, h.hs⟩
theorem zpOK.a {f : Nat → Int32} (h : zpOK f) {v : Int32} (hv : 0 ≤ v.toInt ∧ v.toInt ≤ 9) : zpOK (upd f 1 v) := ⟨h.h0, hv, h.h2, h.hs⟩
theorem zpOK.ill {f : Nat → Int32} (h : zpOK f) (v : Int32) : zpOK (upd f 4 v) := ⟨h.h0, h.h1, h.h2, h.hs⟩
theorem zOK.addP {K : zCs} (h : zOK K) (h6 : K.M < 6) {kd a wk : Int32} (hp : zpar kd a wk) : zOK (K.addP kd a wk) :=
  ⟨h.d3, h6, h.t60, h.l0, h.l1, h.l2, h.l3, h.l4, h.hdd, h.hds, h.hdp, fun j hj => by
    show zpOK (if j = K.M then znewp kd a wk else K.p j)
    have hj2 : j < K.M + 1 := hj
    by_cases e : j = K.M
    · rw [if_pos e]
      obtain ⟨⟨a1, a2⟩, ⟨a3, a4⟩, a5, a6⟩ := hp
      have a1 := Int32.le_iff_toInt_le.mp a1
      have a2 := Int32.lt_iff_toInt_lt.mp a2
      have a3 := Int32.le_iff_toInt_le.mp a3
      have a4 := Int32.le_iff_toInt_le.mp a4
      have a5 := Int32.le_iff_toInt_le.mp a5
      have a6 := Int32.le_iff_toInt_le.mp a6
      rw [zI0] at a1 a3
      rw [show (6 : Int32).toInt = 6 by decide] at a2
      rw [show (9 : Int32).toInt = 9 by decide] at a4
      rw [zI1] at a5
      rw [show (99 : Int32).toInt = 99 by decide] at a6
      exact ⟨⟨a1, by show kd.toInt ≤ 5; omega⟩, ⟨a3, a4⟩, ⟨a5, a6⟩, ⟨by show 0 ≤ (0 : Int32).toInt; decide, by show (0 : Int32).toInt ≤ wk.toInt; rw [zI0]; omega, Or.inl rfl⟩⟩
    · rw [if_neg e]
      exact h.hp j (by omega)⟩
theorem zdropF_lo {dd : Nat → Int32} {due : Int32} : ∀ D, 0 < zdropF dd due D → dd (zdropF dd due D - 1) < due
  | 0, h => absurd h (by unfold zdropF; omega)
  | D + 1, h => by
    unfold zdropF at h ⊢
    by_cases q : dd D < due
    · rw [if_pos q]
      exact q
    · rw [if_neg q] at h ⊢
      exact zdropF_lo D h
theorem zsortD {dd : Nat → Int32} {D : Nat} (h : ∀ i, i + 1 < D → (dd i).toInt < (dd (i + 1)).toInt) : ∀ j i, i ≤ j → j < D → (dd i).toInt ≤ (dd j).toInt
  | 0, i, h1, _ => by
    obtain rfl : i = 0 := by omega
    exact Int.le_refl _
  | j + 1, i, h1, h2 => by
    by_cases e : i = j + 1
    · subst e
      exact Int.le_refl _
    · have a := zsortD h j i (by omega) (by omega)
      have b := h j h2
      omega
theorem zlok_to {l v : Int32} (h : zlok l v) : (l = 0 ∧ 1 ≤ v.toInt ∧ v.toInt ≤ 50) ∨ (l = 1 ∧ 1 ≤ v.toInt ∧ v.toInt ≤ 12) ∨ (l = 2 ∧ 0 ≤ v.toInt ∧ v.toInt ≤ 30) ∨ (l = 3 ∧ 0 ≤ v.toInt ∧ v.toInt ≤ 10) ∨ (l = 4 ∧ 0 ≤ v.toInt ∧ v.toInt ≤ 30) := by
  rcases h with ⟨e, a, b⟩ | ⟨e, a, b⟩ | ⟨e, a, b⟩ | ⟨e, a, b⟩ | ⟨e, a, b⟩
  · exact Or.inl ⟨e, Int32.le_iff_toInt_le.mp a, Int32.le_iff_toInt_le.mp b⟩
  · exact Or.inr (Or.inl ⟨e, Int32.le_iff_toInt_le.mp a, Int32.le_iff_toInt_le.mp b⟩)
  · exact Or.inr (Or.inr (Or.inl ⟨e, Int32.le_iff_toInt_le.mp a, Int32.le_iff_toInt_le.mp b⟩))
  · exact Or.inr (Or.inr (Or.inr (Or.inl ⟨e, Int32.le_iff_toInt_le.mp a, Int32.le_iff_toInt_le.mp b⟩)))
  · exact Or.inr (Or.inr (Or.inr (Or.inr ⟨e, Int32.le_iff_toInt_le.mp a, Int32.le_iff_toInt_le.mp b⟩)))
/-- a LAW anew, and the DATES that are not below DUE dropped: here of a class whose DATES are in order, below any day -/
theorem zOK.setl {K : zCs} (h : zOK K) {l v : Int32} (hv : zlok l v) : zOK ((K.slaw l.toNatClampNeg v).drop) := by
  have hle : ((K.slaw l.toNatClampNeg v).drop).D ≤ K.D := zdropF_le _ _ _
  have hd3 := h.d3
  have hL : 1 ≤ (upd K.law l.toNatClampNeg v 0).toInt ∧ (upd K.law l.toNatClampNeg v 0).toInt ≤ 50 ∧ 1 ≤ (upd K.law l.toNatClampNeg v 1).toInt ∧ (upd K.law l.toNatClampNeg v 1).toInt ≤ 12 ∧ 0 ≤ (upd K.law l.toNatClampNeg v 2).toInt ∧ (upd K.law l.toNatClampNeg v 2).toInt ≤ 30 ∧ 0 ≤ (upd K.law l.toNatClampNeg v 3).toInt ∧ (upd K.law l.toNatClampNeg v 3).toInt ≤ 10 ∧ 0 ≤ (upd K.law l.toNatClampNeg v 4).toInt ∧ (upd K.law l.toNatClampNeg v 4).toInt ≤ 30 := by
    have a0 := h.l0
    have a1 := h.l1
    have a2 := h.l2
    have a3 := h.l3
    have a4 := h.l4
    rcases zlok_to hv with ⟨rfl, b⟩ | ⟨rfl, b⟩ | ⟨rfl, b⟩ | ⟨rfl, b⟩ | ⟨rfl, b⟩
    · exact ⟨b.1, b.2, a1.1, a1.2, a2.1, a2.2, a3.1, a3.2, a4.1, a4.2⟩
    · exact ⟨a0.1, a0.2, b.1, b.2, a2.1, a2.2, a3.1, a3.2, a4.1, a4.2⟩
    · exact ⟨a0.1, a0.2, a1.1, a1.2, b.1, b.2, a3.1, a3.2, a4.1, a4.2⟩
    · exact ⟨a0.1, a0.2, a1.1, a1.2, a2.1, a2.2, b.1, b.2, a4.1, a4.2⟩
    · exact ⟨a0.1, a0.2, a1.1, a1.2, a2.1, a2.2, a3.1, a3.2, b.1, b.2⟩
  obtain ⟨b0, b1, b2, b3, b4, b5, b6, b7, b8, b9⟩ := hL
  refine ⟨by omega, h.m6, h.t60, ⟨b0, b1⟩, ⟨b2, b3⟩, ⟨b4, b5⟩, ⟨b6, b7⟩, ⟨b8, b9⟩, fun i hi => ⟨(h.hdd i (by omega)).1, ?_⟩, fun i hi => h.hds i (by omega), fun i hi => h.hdp i (by omega), h.hp⟩
  have hi2 : i < zdropF K.dd (upd K.law l.toNatClampNeg v 0) K.D := hi
  have hle2 : zdropF K.dd (upd K.law l.toNatClampNeg v 0) K.D ≤ K.D := hle
  have q := Int32.lt_iff_toInt_lt.mp (zdropF_lo (dd := K.dd) (due := upd K.law l.toNatClampNeg v 0) K.D (by omega))
  have q2 := zsortD h.hds (zdropF K.dd (upd K.law l.toNatClampNeg v 0) K.D - 1) i (by omega) (by omega)
  show (K.dd i).toInt < (upd K.law l.toNatClampNeg v 0).toInt
  omega
theorem zOK.pen {K : zCs} (h : zOK K) {v : Int32} (hv : 0 ≤ v.toInt ∧ v.toInt ≤ 30) : zOK (K.slaw 2 v) :=
  ⟨h.d3, h.m6, h.t60, h.l0, h.l1, hv, h.l3, h.l4, h.hdd, h.hds, h.hdp, h.hp⟩
theorem zOK.due {K : zCs} (h : zOK K) {v : Int32} (hv : 1 ≤ v.toInt ∧ v.toInt ≤ 50) (hd : ∀ i, i < K.D → (K.dd i).toInt < v.toInt) : zOK (K.slaw 0 v) :=
  ⟨h.d3, h.m6, h.t60, hv, h.l1, h.l2, h.l3, h.l4, fun i hi => ⟨(h.hdd i hi).1, hd i hi⟩, h.hds, h.hdp, h.hp⟩
