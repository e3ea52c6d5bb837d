theorem zOK.cutD {K : zCs} (h : zOK K) {i : Nat} (hi : i < K.D) : zOK (K.cutD i) := by
  obtain ⟨D, M, T, z, law, dd, dp, p⟩ := K
  have hd3 : D ≤ 3 := h.d3
  have hi2 : i < D := hi
  have hdd : ∀ i, i < D → 0 ≤ (dd i).toInt ∧ (dd i).toInt < (law 0).toInt := h.hdd
  have hds : ∀ i, i + 1 < D → (dd i).toInt < (dd (i + 1)).toInt := h.hds
  have hdp : ∀ i, i < D → 1 ≤ (dp i).toInt ∧ (dp i).toInt ≤ 99 := h.hdp
  suffices hh : (∀ j, j < D - 1 → 0 ≤ (zrmF (D - 1 - i) i dd j).toInt ∧ (zrmF (D - 1 - i) i dd j).toInt < (law 0).toInt) ∧ (∀ j, j + 1 < D - 1 → (zrmF (D - 1 - i) i dd j).toInt < (zrmF (D - 1 - i) i dd (j + 1)).toInt) ∧ (∀ j, j < D - 1 → 1 ≤ (zrmF (D - 1 - i) i dp j).toInt ∧ (zrmF (D - 1 - i) i dp j).toInt ≤ 99) from
    ⟨by show D - 1 ≤ 3; omega, h.m6, h.t60, h.l0, h.l1, h.l2, h.l3, h.l4, hh.1, hh.2.1, hh.2.2, h.hp⟩
  have key : ∀ f : Nat → Int32, ∀ j, j < D - 1 → zrmF (D - 1 - i) i f j = f (if j < i then j else j + 1) := by
    intro f j hj
    rcases (by omega : (D = 1 ∧ i = 0) ∨ (D = 2 ∧ i = 0) ∨ (D = 2 ∧ i = 1) ∨ (D = 3 ∧ i = 0) ∨ (D = 3 ∧ i = 1) ∨ (D = 3 ∧ i = 2)) with ⟨rfl, rfl⟩ | ⟨rfl, rfl⟩ | ⟨rfl, rfl⟩ | ⟨rfl, rfl⟩ | ⟨rfl, rfl⟩ | ⟨rfl, rfl⟩
    · omega
    · obtain rfl : j = 0 := by omega
      rfl
    · obtain rfl : j = 0 := by omega
      rfl
    · rcases (by omega : j = 0 ∨ j = 1) with rfl | rfl <;> rfl
    · rcases (by omega : j = 0 ∨ j = 1) with rfl | rfl <;> rfl
    · rcases (by omega : j = 0 ∨ j = 1) with rfl | rfl <;> rfl
  refine ⟨fun j hj => ?_, fun j hj => ?_, fun j hj => ?_⟩
  · rw [key _ j hj]
    exact hdd _ (by split <;> omega)
  · rw [key _ j (by omega), key _ (j + 1) hj]
    by_cases q : j + 1 < i
    · rw [if_pos q, if_pos (by omega)]
      exact hds j (by omega)
    · rw [if_neg q]
      by_cases q2 : j < i
      · rw [if_pos q2]
        have a := hds j (by omega)
        have b := hds (j + 1) (by omega)
        show (dd j).toInt < (dd (j + 1 + 1)).toInt
        omega
      · rw [if_neg q2]
        exact hds (j + 1) (by omega)
  · rw [key _ j hj]
    exact hdp _ (by split <;> omega)
theorem zOK.addD {K : zCs} (h : zOK K) (h3 : K.D < 3) {day part : Int32} (h0 : 0 ≤ day.toInt) (h1 : day.toInt < (K.law 0).toInt) (hn : ¬ K.has day) (hp : 1 ≤ part.toInt ∧ part.toInt ≤ 99) : zOK (K.addD day part) := by
  obtain ⟨D, M, T, z, law, dd, dp, p⟩ := K
  have hd3 : D < 3 := h3
  have h1 : day.toInt < (law 0).toInt := h1
  have hdd : ∀ i, i < D → 0 ≤ (dd i).toInt ∧ (dd i).toInt < (law 0).toInt := h.hdd
  have hds : ∀ i, i + 1 < D → (dd i).toInt < (dd (i + 1)).toInt := h.hds
  have hdp : ∀ i, i < D → 1 ≤ (dp i).toInt ∧ (dp i).toInt ≤ 99 := h.hdp
  have hne : ∀ i, i < D → (dd i).toInt ≠ day.toInt := fun i hi e => hn ⟨i, hi, Int32.toInt_inj.mp e⟩
  suffices hh : (∀ j, j < D + 1 → 0 ≤ ((zaddF day part D (dd, dp)).1 j).toInt ∧ ((zaddF day part D (dd, dp)).1 j).toInt < (law 0).toInt) ∧ (∀ j, j + 1 < D + 1 → ((zaddF day part D (dd, dp)).1 j).toInt < ((zaddF day part D (dd, dp)).1 (j + 1)).toInt) ∧ (∀ j, j < D + 1 → 1 ≤ ((zaddF day part D (dd, dp)).2 j).toInt ∧ ((zaddF day part D (dd, dp)).2 j).toInt ≤ 99) from
    ⟨hd3, h.m6, h.t60, h.l0, h.l1, h.l2, h.l3, h.l4, hh.1, hh.2.1, hh.2.2, h.hp⟩
  clear h hn
  rcases (by omega : D = 0 ∨ D = 1 ∨ D = 2) with rfl | rfl | rfl
  · refine ⟨fun j hj => ?_, fun j hj => by omega, fun j hj => ?_⟩
    · obtain rfl : j = 0 := by omega
      exact ⟨h0, h1⟩
    · obtain rfl : j = 0 := by omega
      exact hp
  · have a0 := hdd 0 (by omega)
    have p0 := hdp 0 (by omega)
    have n0 := hne 0 (by omega)
    unfold zaddF
    by_cases q : dd 0 ≤ day
    · have q2 := Int32.le_iff_toInt_le.mp q
      rw [show (if (dd, dp).1 0 ≤ day then (upd (dd, dp).1 (0 + 1) day, upd (dd, dp).2 (0 + 1) part) else zaddF day part 0 (upd (dd, dp).1 (0 + 1) ((dd, dp).1 0), upd (dd, dp).2 (0 + 1) ((dd, dp).2 0))) = (upd dd 1 day, upd dp 1 part) from if_pos q]
      refine ⟨fun j hj => ?_, fun j hj => ?_, fun j hj => ?_⟩
      · rcases (by omega : j = 0 ∨ j = 1) with rfl | rfl
        · exact a0
        · exact ⟨h0, h1⟩
      · obtain rfl : j = 0 := by omega
        show (dd 0).toInt < day.toInt
        omega
      · rcases (by omega : j = 0 ∨ j = 1) with rfl | rfl
        · exact p0
        · exact hp
    · have q2 := Int32.lt_iff_toInt_lt.mp (Int32.not_le.mp q)
      rw [show (if (dd, dp).1 0 ≤ day then (upd (dd, dp).1 (0 + 1) day, upd (dd, dp).2 (0 + 1) part) else zaddF day part 0 (upd (dd, dp).1 (0 + 1) ((dd, dp).1 0), upd (dd, dp).2 (0 + 1) ((dd, dp).2 0))) = (upd (upd dd 1 (dd 0)) 0 day, upd (upd dp 1 (dp 0)) 0 part) from if_neg q]
      refine ⟨fun j hj => ?_, fun j hj => ?_, fun j hj => ?_⟩
      · rcases (by omega : j = 0 ∨ j = 1) with rfl | rfl
        · exact ⟨h0, h1⟩
        · exact a0
      · obtain rfl : j = 0 := by omega
        exact q2
      · rcases (by omega : j = 0 ∨ j = 1) with rfl | rfl
        · exact hp
        · exact p0
  · have a0 := hdd 0 (by omega)
    have p0 := hdp 0 (by omega)
    have n0 := hne 0 (by omega)
    have a1 := hdd 1 (by omega)
    have p1 := hdp 1 (by omega)
    have n1 := hne 1 (by omega)
    have s0 := hds 0 (by omega)
    by_cases q : dd 1 ≤ day
    · have q2 := Int32.le_iff_toInt_le.mp q
      rw [show zaddF day part 2 (dd, dp) = (upd dd 2 day, upd dp 2 part) from if_pos q]
      refine ⟨fun j hj => ?_, fun j hj => ?_, fun j hj => ?_⟩
      · rcases (by omega : j = 0 ∨ j = 1 ∨ j = 2) with rfl | rfl | rfl
        · exact a0
        · exact a1
        · exact ⟨h0, h1⟩
      · rcases (by omega : j = 0 ∨ j = 1) with rfl | rfl
        · exact s0
        · show (dd 1).toInt < day.toInt
          omega
      · rcases (by omega : j = 0 ∨ j = 1 ∨ j = 2) with rfl | rfl | rfl
        · exact p0
        · exact p1
        · exact hp
    · have q2 := Int32.lt_iff_toInt_lt.mp (Int32.not_le.mp q)
      rw [show zaddF day part 2 (dd, dp) = zaddF day part 1 (upd dd 2 (dd 1), upd dp 2 (dp 1)) from if_neg q]
      by_cases r : dd 0 ≤ day
      · have r2 := Int32.le_iff_toInt_le.mp r
        rw [show zaddF day part 1 (upd dd 2 (dd 1), upd dp 2 (dp 1)) = (upd (upd dd 2 (dd 1)) 1 day, upd (upd dp 2 (dp 1)) 1 part) from if_pos r]
        refine ⟨fun j hj => ?_, fun j hj => ?_, fun j hj => ?_⟩
        · rcases (by omega : j = 0 ∨ j = 1 ∨ j = 2) with rfl | rfl | rfl
          · exact a0
          · exact ⟨h0, h1⟩
          · exact a1
        · rcases (by omega : j = 0 ∨ j = 1) with rfl | rfl
          · show (dd 0).toInt < day.toInt
            omega
          · exact q2
        · rcases (by omega : j = 0 ∨ j = 1 ∨ j = 2) with rfl | rfl | rfl
          · exact p0
          · exact hp
          · exact p1
      · have r2 := Int32.lt_iff_toInt_lt.mp (Int32.not_le.mp r)
        rw [show zaddF day part 1 (upd dd 2 (dd 1), upd dp 2 (dp 1)) = (upd (upd (upd dd 2 (dd 1)) 1 (dd 0)) 0 day, upd (upd (upd dp 2 (dp 1)) 1 (dp 0)) 0 part) from if_neg r]
        refine ⟨fun j hj => ?_, fun j hj => ?_, fun j hj => ?_⟩
        · rcases (by omega : j = 0 ∨ j = 1 ∨ j = 2) with rfl | rfl | rfl
          · exact ⟨h0, h1⟩
          · exact a0
          · exact a1
        · rcases (by omega : j = 0 ∨ j = 1) with rfl | rfl
          · exact r2
          · exact s0
        · rcases (by omega : j = 0 ∨ j = 1 ∨ j = 2) with rfl | rfl | rfl
          · exact hp
          · exact p0
          · exact p1
