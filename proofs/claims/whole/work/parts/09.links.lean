/-! that the data of the small machine is what the tables say: links and classes -/
theorem zas_mem {α : Type} : ∀ {l : List (Nat × α)} {k : Nat} {a : α}, zas l k = some a → (k, a) ∈ l
  | [], _, _, h => by simp [zas] at h
  | q :: l, k, a, h => by
    unfold zas at h
    cases hq : Nat.beq q.1 k with
    | true =>
      rw [hq] at h
      have h1 : q.1 = k := Nat.eq_of_beq_eq_true hq
      have h2 : q.2 = a := Option.some.inj h
      rw [← h1, ← h2]
      exact List.mem_cons_self
    | false =>
      rw [hq] at h
      exact List.mem_cons_of_mem _ (zas_mem h)
theorem zlk_mem {α : Type} {t : List (List (Nat × α))} {c idx : Nat} {a : α} (h : zlk t c idx = some a) : ∃ l, zat t c = some l ∧ (idx, a) ∈ l := by
  unfold zlk at h
  cases hz : zat t c with
  | none => rw [hz] at h; cases h
  | some l => rw [hz] at h; exact ⟨l, rfl, zas_mem h⟩
/-- of all rows of a table -/
def zall {α : Type} (P : Nat → Nat × α → Prop) : Nat → List (List (Nat × α)) → Prop
  | _, [] => True
  | c, l :: t => (∀ e ∈ l, P c e) ∧ zall P (c + 1) t
theorem zall_at {α : Type} {P : Nat → Nat × α → Prop} : ∀ {t : List (List (Nat × α))} {c0 c : Nat} {l : List (Nat × α)}, zall P c0 t → zat t c = some l → ∀ e ∈ l, P (c0 + c) e
  | [], _, _, _, _, h => by simp [zat] at h
  | l0 :: t, c0, 0, l, hz, h => by
    have h1 : l0 = l := Option.some.inj h
    rw [← h1]
    exact hz.1
  | l0 :: t, c0, c + 1, l, hz, h => by
    have h1 := zall_at (c0 := c0 + 1) (c := c) hz.2 h
    rw [show c0 + (c + 1) = c0 + 1 + c by omega]
    exact h1
theorem zlk_of {α : Type} {P : Nat → Nat × α → Prop} {t : List (List (Nat × α))} (hz : zall P 0 t) {c idx : Nat} {a : α} (h : zlk t c idx = some a) : P c (idx, a) := by
  obtain ⟨l, h1, h2⟩ := zlk_mem h
  have h3 := zall_at hz h1 _ h2
  rw [Nat.zero_add] at h3
  exact h3
theorem zin_of {ws : List Cond} {ps : List Nat} (h : ws = ps.filterMap (fun i => lw_tbl[i]?)) : ∀ w ∈ ws, w ∈ lw_tbl := by
  intro w hw
  rw [h] at hw
  obtain ⟨i, -, hi⟩ := List.mem_filterMap.mp hw
  exact List.mem_of_getElem? hi
def zPf (c : Nat) (e : Nat × (Nat × Nat)) : Prop := ∃ own CC T N, zat zcn c = some own ∧ vwCl[e.2.1]? = some (CC, T, N) ∧ e.2.2 < N ∧ (T e.2.2).1 = CC ∧ Cond.fieldLink own e.1 CC (T e.2.2).2.1 (T e.2.2).2.2.1 ∈ lw_tbl
set_option maxRecDepth 20000 in
theorem zf_0_106 : zPf 0 (106, 1, 0) := ⟨_, _, _, _, rfl, rfl, by decide, rfl, List.mem_of_getElem? (i := 117) (by decide +kernel)⟩
set_option maxRecDepth 20000 in
theorem zf_0_109 : zPf 0 (109, 1, 1) := ⟨_, _, _, _, rfl, rfl, by decide, rfl, List.mem_of_getElem? (i := 121) (by decide +kernel)⟩
set_option maxRecDepth 20000 in
theorem zf_0_68 : zPf 0 (68, 1, 2) := ⟨_, _, _, _, rfl, rfl, by decide, rfl, List.mem_of_getElem? (i := 124) (by decide +kernel)⟩
set_option maxRecDepth 20000 in
theorem zf_0_65 : zPf 0 (65, 1, 3) := ⟨_, _, _, _, rfl, rfl, by decide, rfl, List.mem_of_getElem? (i := 126) (by decide +kernel)⟩
set_option maxRecDepth 20000 in
theorem zf_0_118 : zPf 0 (118, 1, 5) := ⟨_, _, _, _, rfl, rfl, by decide, rfl, List.mem_of_getElem? (i := 133) (by decide +kernel)⟩
set_option maxRecDepth 20000 in
theorem zf_0_115 : zPf 0 (115, 1, 6) := ⟨_, _, _, _, rfl, rfl, by decide, rfl, List.mem_of_getElem? (i := 136) (by decide +kernel)⟩
set_option maxRecDepth 20000 in
theorem zf_0_9 : zPf 0 (9, 0, 0) := ⟨_, _, _, _, rfl, rfl, by decide, rfl, List.mem_of_getElem? (i := 162) (by decide +kernel)⟩
set_option maxRecDepth 20000 in
theorem zf_0_15 : zPf 0 (15, 0, 1) := ⟨_, _, _, _, rfl, rfl, by decide, rfl, List.mem_of_getElem? (i := 165) (by decide +kernel)⟩
set_option maxRecDepth 20000 in
theorem zf_0_18 : zPf 0 (18, 0, 2) := ⟨_, _, _, _, rfl, rfl, by decide, rfl, List.mem_of_getElem? (i := 168) (by decide +kernel)⟩
set_option maxRecDepth 20000 in
theorem zf_0_23 : zPf 0 (23, 0, 3) := ⟨_, _, _, _, rfl, rfl, by decide, rfl, List.mem_of_getElem? (i := 170) (by decide +kernel)⟩
set_option maxRecDepth 20000 in
theorem zf_0_44 : zPf 0 (44, 0, 4) := ⟨_, _, _, _, rfl, rfl, by decide, rfl, List.mem_of_getElem? (i := 173) (by decide +kernel)⟩
set_option maxRecDepth 20000 in
theorem zf_0_47 : zPf 0 (47, 0, 5) := ⟨_, _, _, _, rfl, rfl, by decide, rfl, List.mem_of_getElem? (i := 176) (by decide +kernel)⟩
set_option maxRecDepth 20000 in
theorem zf_0_50 : zPf 0 (50, 0, 6) := ⟨_, _, _, _, rfl, rfl, by decide, rfl, List.mem_of_getElem? (i := 179) (by decide +kernel)⟩
set_option maxRecDepth 20000 in
theorem zf_0_28 : zPf 0 (28, 0, 7) := ⟨_, _, _, _, rfl, rfl, by decide, rfl, List.mem_of_getElem? (i := 181) (by decide +kernel)⟩
set_option maxRecDepth 20000 in
theorem zf_1_9 : zPf 1 (9, 1, 0) := ⟨_, _, _, _, rfl, rfl, by decide, rfl, List.mem_of_getElem? (i := 114) (by decide +kernel)⟩
set_option maxRecDepth 20000 in
theorem zf_1_15 : zPf 1 (15, 1, 1) := ⟨_, _, _, _, rfl, rfl, by decide, rfl, List.mem_of_getElem? (i := 118) (by decide +kernel)⟩
set_option maxRecDepth 20000 in
theorem zf_1_18 : zPf 1 (18, 1, 2) := ⟨_, _, _, _, rfl, rfl, by decide, rfl, List.mem_of_getElem? (i := 122) (by decide +kernel)⟩
set_option maxRecDepth 20000 in
theorem zf_1_21 : zPf 1 (21, 1, 3) := ⟨_, _, _, _, rfl, rfl, by decide, rfl, List.mem_of_getElem? (i := 125) (by decide +kernel)⟩
set_option maxRecDepth 20000 in
theorem zf_1_24 : zPf 1 (24, 1, 4) := ⟨_, _, _, _, rfl, rfl, by decide, rfl, List.mem_of_getElem? (i := 128) (by decide +kernel)⟩
set_option maxRecDepth 20000 in
theorem zf_1_27 : zPf 1 (27, 1, 5) := ⟨_, _, _, _, rfl, rfl, by decide, rfl, List.mem_of_getElem? (i := 131) (by decide +kernel)⟩
set_option maxRecDepth 20000 in
theorem zf_1_30 : zPf 1 (30, 1, 6) := ⟨_, _, _, _, rfl, rfl, by decide, rfl, List.mem_of_getElem? (i := 134) (by decide +kernel)⟩
set_option maxRecDepth 20000 in
theorem zf_2_9 : zPf 2 (9, 2, 0) := ⟨_, _, _, _, rfl, rfl, by decide, rfl, List.mem_of_getElem? (i := 708) (by decide +kernel)⟩
set_option maxRecDepth 20000 in
theorem zf_2_15 : zPf 2 (15, 2, 1) := ⟨_, _, _, _, rfl, rfl, by decide, rfl, List.mem_of_getElem? (i := 710) (by decide +kernel)⟩
set_option maxRecDepth 20000 in
theorem zf_3_113 : zPf 3 (113, 1, 4) := ⟨_, _, _, _, rfl, rfl, by decide, rfl, List.mem_of_getElem? (i := 129) (by decide +kernel)⟩
set_option maxRecDepth 20000 in
theorem zf_3_131 : zPf 3 (131, 0, 0) := ⟨_, _, _, _, rfl, rfl, by decide, rfl, List.mem_of_getElem? (i := 164) (by decide +kernel)⟩
set_option maxRecDepth 20000 in
theorem zf_3_137 : zPf 3 (137, 0, 1) := ⟨_, _, _, _, rfl, rfl, by decide, rfl, List.mem_of_getElem? (i := 167) (by decide +kernel)⟩
set_option maxRecDepth 20000 in
theorem zf_3_103 : zPf 3 (103, 0, 3) := ⟨_, _, _, _, rfl, rfl, by decide, rfl, List.mem_of_getElem? (i := 171) (by decide +kernel)⟩
set_option maxRecDepth 20000 in
theorem zf_3_134 : zPf 3 (134, 0, 4) := ⟨_, _, _, _, rfl, rfl, by decide, rfl, List.mem_of_getElem? (i := 175) (by decide +kernel)⟩
set_option maxRecDepth 20000 in
theorem zf_3_88 : zPf 3 (88, 0, 5) := ⟨_, _, _, _, rfl, rfl, by decide, rfl, List.mem_of_getElem? (i := 178) (by decide +kernel)⟩
set_option maxRecDepth 20000 in
theorem zf_3_9 : zPf 3 (9, 3, 0) := ⟨_, _, _, _, rfl, rfl, by decide, rfl, List.mem_of_getElem? (i := 206) (by decide +kernel)⟩
set_option maxRecDepth 20000 in
theorem zf_3_15 : zPf 3 (15, 3, 1) := ⟨_, _, _, _, rfl, rfl, by decide, rfl, List.mem_of_getElem? (i := 207) (by decide +kernel)⟩
set_option maxRecDepth 20000 in
theorem zf_3_19 : zPf 3 (19, 3, 2) := ⟨_, _, _, _, rfl, rfl, by decide, rfl, List.mem_of_getElem? (i := 209) (by decide +kernel)⟩
set_option maxRecDepth 20000 in
theorem zf_3_146 : zPf 3 (146, 3, 3) := ⟨_, _, _, _, rfl, rfl, by decide, rfl, List.mem_of_getElem? (i := 210) (by decide +kernel)⟩
set_option maxRecDepth 20000 in
theorem zf_3_31 : zPf 3 (31, 3, 4) := ⟨_, _, _, _, rfl, rfl, by decide, rfl, List.mem_of_getElem? (i := 211) (by decide +kernel)⟩
set_option maxRecDepth 20000 in
theorem zf_3_37 : zPf 3 (37, 3, 5) := ⟨_, _, _, _, rfl, rfl, by decide, rfl, List.mem_of_getElem? (i := 212) (by decide +kernel)⟩
set_option maxRecDepth 20000 in
theorem zf_3_95 : zPf 3 (95, 3, 6) := ⟨_, _, _, _, rfl, rfl, by decide, rfl, List.mem_of_getElem? (i := 213) (by decide +kernel)⟩
set_option maxRecDepth 20000 in
theorem zf_3_28 : zPf 3 (28, 3, 7) := ⟨_, _, _, _, rfl, rfl, by decide, rfl, List.mem_of_getElem? (i := 214) (by decide +kernel)⟩
set_option maxRecDepth 20000 in
theorem zf_4_23 : zPf 4 (23, 1, 0) := ⟨_, _, _, _, rfl, rfl, by decide, rfl, List.mem_of_getElem? (i := 115) (by decide +kernel)⟩
set_option maxRecDepth 20000 in
theorem zf_4_29 : zPf 4 (29, 1, 1) := ⟨_, _, _, _, rfl, rfl, by decide, rfl, List.mem_of_getElem? (i := 119) (by decide +kernel)⟩
set_option maxRecDepth 20000 in
theorem zf_4_9 : zPf 4 (9, 4, 0) := ⟨_, _, _, _, rfl, rfl, by decide, rfl, List.mem_of_getElem? (i := 241) (by decide +kernel)⟩
set_option maxRecDepth 20000 in
theorem zf_4_15 : zPf 4 (15, 4, 1) := ⟨_, _, _, _, rfl, rfl, by decide, rfl, List.mem_of_getElem? (i := 243) (by decide +kernel)⟩
set_option maxRecDepth 20000 in
theorem zf_4_28 : zPf 4 (28, 4, 2) := ⟨_, _, _, _, rfl, rfl, by decide, rfl, List.mem_of_getElem? (i := 245) (by decide +kernel)⟩
set_option maxRecDepth 20000 in
theorem zf_4_32 : zPf 4 (32, 4, 3) := ⟨_, _, _, _, rfl, rfl, by decide, rfl, List.mem_of_getElem? (i := 246) (by decide +kernel)⟩
set_option maxRecDepth 20000 in
theorem zf_4_33 : zPf 4 (33, 4, 4) := ⟨_, _, _, _, rfl, rfl, by decide, rfl, List.mem_of_getElem? (i := 247) (by decide +kernel)⟩
set_option maxRecDepth 20000 in
theorem zf_4_19 : zPf 4 (19, 4, 5) := ⟨_, _, _, _, rfl, rfl, by decide, rfl, List.mem_of_getElem? (i := 248) (by decide +kernel)⟩
set_option maxRecDepth 20000 in
theorem zf_5_130 : zPf 5 (130, 1, 0) := ⟨_, _, _, _, rfl, rfl, by decide, rfl, List.mem_of_getElem? (i := 116) (by decide +kernel)⟩
set_option maxRecDepth 20000 in
theorem zf_5_135 : zPf 5 (135, 1, 1) := ⟨_, _, _, _, rfl, rfl, by decide, rfl, List.mem_of_getElem? (i := 120) (by decide +kernel)⟩
set_option maxRecDepth 20000 in
theorem zf_5_138 : zPf 5 (138, 1, 2) := ⟨_, _, _, _, rfl, rfl, by decide, rfl, List.mem_of_getElem? (i := 123) (by decide +kernel)⟩
set_option maxRecDepth 20000 in
theorem zf_5_141 : zPf 5 (141, 1, 3) := ⟨_, _, _, _, rfl, rfl, by decide, rfl, List.mem_of_getElem? (i := 127) (by decide +kernel)⟩
set_option maxRecDepth 20000 in
theorem zf_5_144 : zPf 5 (144, 1, 4) := ⟨_, _, _, _, rfl, rfl, by decide, rfl, List.mem_of_getElem? (i := 130) (by decide +kernel)⟩
set_option maxRecDepth 20000 in
theorem zf_5_151 : zPf 5 (151, 1, 5) := ⟨_, _, _, _, rfl, rfl, by decide, rfl, List.mem_of_getElem? (i := 132) (by decide +kernel)⟩
set_option maxRecDepth 20000 in
theorem zf_5_154 : zPf 5 (154, 1, 6) := ⟨_, _, _, _, rfl, rfl, by decide, rfl, List.mem_of_getElem? (i := 135) (by decide +kernel)⟩
set_option maxRecDepth 20000 in
theorem zf_5_87 : zPf 5 (87, 0, 0) := ⟨_, _, _, _, rfl, rfl, by decide, rfl, List.mem_of_getElem? (i := 163) (by decide +kernel)⟩
set_option maxRecDepth 20000 in
theorem zf_5_103 : zPf 5 (103, 0, 1) := ⟨_, _, _, _, rfl, rfl, by decide, rfl, List.mem_of_getElem? (i := 166) (by decide +kernel)⟩
set_option maxRecDepth 20000 in
theorem zf_5_106 : zPf 5 (106, 0, 2) := ⟨_, _, _, _, rfl, rfl, by decide, rfl, List.mem_of_getElem? (i := 169) (by decide +kernel)⟩
set_option maxRecDepth 20000 in
theorem zf_5_126 : zPf 5 (126, 0, 3) := ⟨_, _, _, _, rfl, rfl, by decide, rfl, List.mem_of_getElem? (i := 172) (by decide +kernel)⟩
set_option maxRecDepth 20000 in
theorem zf_5_96 : zPf 5 (96, 0, 4) := ⟨_, _, _, _, rfl, rfl, by decide, rfl, List.mem_of_getElem? (i := 174) (by decide +kernel)⟩
set_option maxRecDepth 20000 in
theorem zf_5_74 : zPf 5 (74, 0, 5) := ⟨_, _, _, _, rfl, rfl, by decide, rfl, List.mem_of_getElem? (i := 177) (by decide +kernel)⟩
set_option maxRecDepth 20000 in
theorem zf_5_168 : zPf 5 (168, 0, 6) := ⟨_, _, _, _, rfl, rfl, by decide, rfl, List.mem_of_getElem? (i := 180) (by decide +kernel)⟩
set_option maxRecDepth 20000 in
theorem zf_5_64 : zPf 5 (64, 0, 7) := ⟨_, _, _, _, rfl, rfl, by decide, rfl, List.mem_of_getElem? (i := 182) (by decide +kernel)⟩
set_option maxRecDepth 20000 in
theorem zf_5_56 : zPf 5 (56, 3, 1) := ⟨_, _, _, _, rfl, rfl, by decide, rfl, List.mem_of_getElem? (i := 208) (by decide +kernel)⟩
set_option maxRecDepth 20000 in
theorem zf_5_273 : zPf 5 (273, 4, 0) := ⟨_, _, _, _, rfl, rfl, by decide, rfl, List.mem_of_getElem? (i := 242) (by decide +kernel)⟩
set_option maxRecDepth 20000 in
theorem zf_5_270 : zPf 5 (270, 4, 1) := ⟨_, _, _, _, rfl, rfl, by decide, rfl, List.mem_of_getElem? (i := 244) (by decide +kernel)⟩
set_option maxRecDepth 20000 in
theorem zf_5_12 : zPf 5 (12, 5, 0) := ⟨_, _, _, _, rfl, rfl, by decide, rfl, List.mem_of_getElem? (i := 262) (by decide +kernel)⟩
set_option maxRecDepth 20000 in
theorem zf_5_16 : zPf 5 (16, 5, 1) := ⟨_, _, _, _, rfl, rfl, by decide, rfl, List.mem_of_getElem? (i := 263) (by decide +kernel)⟩
set_option maxRecDepth 20000 in
theorem zf_5_19 : zPf 5 (19, 5, 2) := ⟨_, _, _, _, rfl, rfl, by decide, rfl, List.mem_of_getElem? (i := 264) (by decide +kernel)⟩
set_option maxRecDepth 20000 in
theorem zf_5_279 : zPf 5 (279, 5, 3) := ⟨_, _, _, _, rfl, rfl, by decide, rfl, List.mem_of_getElem? (i := 265) (by decide +kernel)⟩
set_option maxRecDepth 20000 in
theorem zf_5_25 : zPf 5 (25, 5, 4) := ⟨_, _, _, _, rfl, rfl, by decide, rfl, List.mem_of_getElem? (i := 266) (by decide +kernel)⟩
set_option maxRecDepth 20000 in
theorem zf_5_29 : zPf 5 (29, 5, 5) := ⟨_, _, _, _, rfl, rfl, by decide, rfl, List.mem_of_getElem? (i := 267) (by decide +kernel)⟩
set_option maxRecDepth 20000 in
theorem zf_5_71 : zPf 5 (71, 5, 6) := ⟨_, _, _, _, rfl, rfl, by decide, rfl, List.mem_of_getElem? (i := 268) (by decide +kernel)⟩
set_option maxRecDepth 20000 in
theorem zf_5_35 : zPf 5 (35, 5, 7) := ⟨_, _, _, _, rfl, rfl, by decide, rfl, List.mem_of_getElem? (i := 269) (by decide +kernel)⟩
set_option maxRecDepth 20000 in
theorem zf_5_39 : zPf 5 (39, 5, 8) := ⟨_, _, _, _, rfl, rfl, by decide, rfl, List.mem_of_getElem? (i := 270) (by decide +kernel)⟩
set_option maxRecDepth 20000 in
theorem zf_5_42 : zPf 5 (42, 5, 9) := ⟨_, _, _, _, rfl, rfl, by decide, rfl, List.mem_of_getElem? (i := 271) (by decide +kernel)⟩
set_option maxRecDepth 20000 in
theorem zf_5_48 : zPf 5 (48, 5, 10) := ⟨_, _, _, _, rfl, rfl, by decide, rfl, List.mem_of_getElem? (i := 272) (by decide +kernel)⟩
set_option maxRecDepth 20000 in
theorem zf_5_228 : zPf 5 (228, 2, 0) := ⟨_, _, _, _, rfl, rfl, by decide, rfl, List.mem_of_getElem? (i := 709) (by decide +kernel)⟩
set_option maxRecDepth 20000 in
theorem zf_5_231 : zPf 5 (231, 2, 1) := ⟨_, _, _, _, rfl, rfl, by decide, rfl, List.mem_of_getElem? (i := 711) (by decide +kernel)⟩
set_option maxRecDepth 20000 in
theorem zf_6_7 : zPf 6 (7, 6, 0) := ⟨_, _, _, _, rfl, rfl, by decide, rfl, List.mem_of_getElem? (i := 824) (by decide +kernel)⟩
set_option maxRecDepth 20000 in
theorem zf_6_231 : zPf 6 (231, 6, 1) := ⟨_, _, _, _, rfl, rfl, by decide, rfl, List.mem_of_getElem? (i := 825) (by decide +kernel)⟩
set_option maxRecDepth 20000 in
theorem zf_6_13 : zPf 6 (13, 6, 2) := ⟨_, _, _, _, rfl, rfl, by decide, rfl, List.mem_of_getElem? (i := 826) (by decide +kernel)⟩
set_option maxRecDepth 20000 in
theorem zf_6_16 : zPf 6 (16, 6, 3) := ⟨_, _, _, _, rfl, rfl, by decide, rfl, List.mem_of_getElem? (i := 827) (by decide +kernel)⟩
set_option maxRecDepth 20000 in
theorem zf_6_96 : zPf 6 (96, 6, 4) := ⟨_, _, _, _, rfl, rfl, by decide, rfl, List.mem_of_getElem? (i := 828) (by decide +kernel)⟩
set_option maxRecDepth 20000 in
theorem zf_6_19 : zPf 6 (19, 6, 5) := ⟨_, _, _, _, rfl, rfl, by decide, rfl, List.mem_of_getElem? (i := 829) (by decide +kernel)⟩
set_option maxRecDepth 20000 in
theorem zf_6_22 : zPf 6 (22, 6, 6) := ⟨_, _, _, _, rfl, rfl, by decide, rfl, List.mem_of_getElem? (i := 830) (by decide +kernel)⟩
set_option maxRecDepth 20000 in
theorem zf_6_25 : zPf 6 (25, 6, 7) := ⟨_, _, _, _, rfl, rfl, by decide, rfl, List.mem_of_getElem? (i := 831) (by decide +kernel)⟩
set_option maxRecDepth 20000 in
theorem zf_6_28 : zPf 6 (28, 6, 8) := ⟨_, _, _, _, rfl, rfl, by decide, rfl, List.mem_of_getElem? (i := 832) (by decide +kernel)⟩
set_option maxRecDepth 20000 in
theorem zf_6_31 : zPf 6 (31, 6, 9) := ⟨_, _, _, _, rfl, rfl, by decide, rfl, List.mem_of_getElem? (i := 833) (by decide +kernel)⟩
set_option maxRecDepth 20000 in
theorem zf_6_103 : zPf 6 (103, 6, 10) := ⟨_, _, _, _, rfl, rfl, by decide, rfl, List.mem_of_getElem? (i := 834) (by decide +kernel)⟩
set_option maxRecDepth 20000 in
theorem zf_6_34 : zPf 6 (34, 6, 11) := ⟨_, _, _, _, rfl, rfl, by decide, rfl, List.mem_of_getElem? (i := 835) (by decide +kernel)⟩
set_option maxRecDepth 20000 in
theorem zf_6_38 : zPf 6 (38, 6, 12) := ⟨_, _, _, _, rfl, rfl, by decide, rfl, List.mem_of_getElem? (i := 836) (by decide +kernel)⟩
set_option maxRecDepth 20000 in
theorem zf_6_106 : zPf 6 (106, 6, 13) := ⟨_, _, _, _, rfl, rfl, by decide, rfl, List.mem_of_getElem? (i := 837) (by decide +kernel)⟩
set_option maxRecDepth 20000 in
theorem zf_6_128 : zPf 6 (128, 6, 14) := ⟨_, _, _, _, rfl, rfl, by decide, rfl, List.mem_of_getElem? (i := 838) (by decide +kernel)⟩
set_option maxRecDepth 20000 in
theorem zf_6_114 : zPf 6 (114, 6, 15) := ⟨_, _, _, _, rfl, rfl, by decide, rfl, List.mem_of_getElem? (i := 839) (by decide +kernel)⟩
set_option maxRecDepth 20000 in
theorem zf_6_111 : zPf 6 (111, 6, 16) := ⟨_, _, _, _, rfl, rfl, by decide, rfl, List.mem_of_getElem? (i := 840) (by decide +kernel)⟩
set_option maxRecDepth 20000 in
theorem zf_6_131 : zPf 6 (131, 6, 17) := ⟨_, _, _, _, rfl, rfl, by decide, rfl, List.mem_of_getElem? (i := 841) (by decide +kernel)⟩
set_option maxRecDepth 20000 in
theorem zf_6_135 : zPf 6 (135, 6, 18) := ⟨_, _, _, _, rfl, rfl, by decide, rfl, List.mem_of_getElem? (i := 842) (by decide +kernel)⟩
set_option maxRecDepth 20000 in
theorem zf_6_166 : zPf 6 (166, 6, 19) := ⟨_, _, _, _, rfl, rfl, by decide, rfl, List.mem_of_getElem? (i := 843) (by decide +kernel)⟩
set_option maxRecDepth 20000 in
theorem zf_6_176 : zPf 6 (176, 6, 20) := ⟨_, _, _, _, rfl, rfl, by decide, rfl, List.mem_of_getElem? (i := 844) (by decide +kernel)⟩
set_option maxRecDepth 20000 in
theorem zf_6_198 : zPf 6 (198, 6, 21) := ⟨_, _, _, _, rfl, rfl, by decide, rfl, List.mem_of_getElem? (i := 845) (by decide +kernel)⟩
set_option maxRecDepth 20000 in
theorem zf_6_41 : zPf 6 (41, 6, 22) := ⟨_, _, _, _, rfl, rfl, by decide, rfl, List.mem_of_getElem? (i := 846) (by decide +kernel)⟩
set_option maxRecDepth 20000 in
theorem zf_6_44 : zPf 6 (44, 6, 23) := ⟨_, _, _, _, rfl, rfl, by decide, rfl, List.mem_of_getElem? (i := 847) (by decide +kernel)⟩
set_option maxRecDepth 20000 in
theorem zf_6_47 : zPf 6 (47, 6, 24) := ⟨_, _, _, _, rfl, rfl, by decide, rfl, List.mem_of_getElem? (i := 848) (by decide +kernel)⟩
set_option maxRecDepth 20000 in
theorem zf_6_50 : zPf 6 (50, 6, 25) := ⟨_, _, _, _, rfl, rfl, by decide, rfl, List.mem_of_getElem? (i := 849) (by decide +kernel)⟩
set_option maxRecDepth 20000 in
theorem zf_6_53 : zPf 6 (53, 6, 26) := ⟨_, _, _, _, rfl, rfl, by decide, rfl, List.mem_of_getElem? (i := 850) (by decide +kernel)⟩
set_option maxRecDepth 20000 in
theorem zf_6_56 : zPf 6 (56, 6, 27) := ⟨_, _, _, _, rfl, rfl, by decide, rfl, List.mem_of_getElem? (i := 851) (by decide +kernel)⟩
set_option maxRecDepth 20000 in
theorem zf_6_59 : zPf 6 (59, 6, 28) := ⟨_, _, _, _, rfl, rfl, by decide, rfl, List.mem_of_getElem? (i := 852) (by decide +kernel)⟩
set_option maxRecDepth 20000 in
theorem zf_6_265 : zPf 6 (265, 6, 29) := ⟨_, _, _, _, rfl, rfl, by decide, rfl, List.mem_of_getElem? (i := 853) (by decide +kernel)⟩
set_option maxRecDepth 20000 in
theorem zf_6_268 : zPf 6 (268, 6, 30) := ⟨_, _, _, _, rfl, rfl, by decide, rfl, List.mem_of_getElem? (i := 854) (by decide +kernel)⟩
set_option maxRecDepth 20000 in
theorem zf_6_62 : zPf 6 (62, 6, 31) := ⟨_, _, _, _, rfl, rfl, by decide, rfl, List.mem_of_getElem? (i := 855) (by decide +kernel)⟩
set_option maxRecDepth 20000 in
theorem zf_6_65 : zPf 6 (65, 6, 32) := ⟨_, _, _, _, rfl, rfl, by decide, rfl, List.mem_of_getElem? (i := 856) (by decide +kernel)⟩
set_option maxRecDepth 20000 in
theorem zf_6_228 : zPf 6 (228, 6, 33) := ⟨_, _, _, _, rfl, rfl, by decide, rfl, List.mem_of_getElem? (i := 857) (by decide +kernel)⟩
set_option maxRecDepth 20000 in
theorem zf_6_317 : zPf 6 (317, 6, 34) := ⟨_, _, _, _, rfl, rfl, by decide, rfl, List.mem_of_getElem? (i := 858) (by decide +kernel)⟩
set_option maxRecDepth 20000 in
theorem zf_6_68 : zPf 6 (68, 6, 35) := ⟨_, _, _, _, rfl, rfl, by decide, rfl, List.mem_of_getElem? (i := 859) (by decide +kernel)⟩
set_option maxRecDepth 20000 in
theorem zf_6_71 : zPf 6 (71, 6, 36) := ⟨_, _, _, _, rfl, rfl, by decide, rfl, List.mem_of_getElem? (i := 860) (by decide +kernel)⟩
set_option maxRecDepth 20000 in
theorem zf_6_74 : zPf 6 (74, 6, 37) := ⟨_, _, _, _, rfl, rfl, by decide, rfl, List.mem_of_getElem? (i := 861) (by decide +kernel)⟩
set_option maxRecDepth 20000 in
theorem zf_6_78 : zPf 6 (78, 6, 38) := ⟨_, _, _, _, rfl, rfl, by decide, rfl, List.mem_of_getElem? (i := 862) (by decide +kernel)⟩
set_option maxRecDepth 20000 in
theorem zf_6_81 : zPf 6 (81, 6, 39) := ⟨_, _, _, _, rfl, rfl, by decide, rfl, List.mem_of_getElem? (i := 863) (by decide +kernel)⟩
set_option maxRecDepth 20000 in
theorem zf_6_84 : zPf 6 (84, 6, 40) := ⟨_, _, _, _, rfl, rfl, by decide, rfl, List.mem_of_getElem? (i := 864) (by decide +kernel)⟩
set_option maxRecDepth 20000 in
theorem zf_6_355 : zPf 6 (355, 6, 41) := ⟨_, _, _, _, rfl, rfl, by decide, rfl, List.mem_of_getElem? (i := 865) (by decide +kernel)⟩
set_option maxRecDepth 20000 in
theorem zf_6_349 : zPf 6 (349, 6, 42) := ⟨_, _, _, _, rfl, rfl, by decide, rfl, List.mem_of_getElem? (i := 866) (by decide +kernel)⟩
set_option maxRecDepth 20000 in
theorem zf_6_367 : zPf 6 (367, 6, 43) := ⟨_, _, _, _, rfl, rfl, by decide, rfl, List.mem_of_getElem? (i := 867) (by decide +kernel)⟩
set_option maxRecDepth 20000 in
theorem zf_6_87 : zPf 6 (87, 6, 44) := ⟨_, _, _, _, rfl, rfl, by decide, rfl, List.mem_of_getElem? (i := 868) (by decide +kernel)⟩
set_option maxRecDepth 20000 in
theorem zf_6_343 : zPf 6 (343, 6, 45) := ⟨_, _, _, _, rfl, rfl, by decide, rfl, List.mem_of_getElem? (i := 869) (by decide +kernel)⟩
set_option maxRecDepth 20000 in
theorem zf_6_370 : zPf 6 (370, 6, 46) := ⟨_, _, _, _, rfl, rfl, by decide, rfl, List.mem_of_getElem? (i := 870) (by decide +kernel)⟩
set_option maxRecDepth 20000 in
theorem zf_6_399 : zPf 6 (399, 6, 47) := ⟨_, _, _, _, rfl, rfl, by decide, rfl, List.mem_of_getElem? (i := 871) (by decide +kernel)⟩
set_option maxRecDepth 20000 in
theorem zf_6_90 : zPf 6 (90, 6, 48) := ⟨_, _, _, _, rfl, rfl, by decide, rfl, List.mem_of_getElem? (i := 872) (by decide +kernel)⟩
set_option maxRecDepth 20000 in
theorem zf_6_388 : zPf 6 (388, 6, 49) := ⟨_, _, _, _, rfl, rfl, by decide, rfl, List.mem_of_getElem? (i := 873) (by decide +kernel)⟩
set_option maxRecDepth 20000 in
theorem zf_6_93 : zPf 6 (93, 6, 50) := ⟨_, _, _, _, rfl, rfl, by decide, rfl, List.mem_of_getElem? (i := 874) (by decide +kernel)⟩
set_option maxRecDepth 20000 in
theorem zf_all : zall zPf 0 zflT := ⟨List.forall_mem_cons.mpr ⟨zf_0_106, List.forall_mem_cons.mpr ⟨zf_0_109, List.forall_mem_cons.mpr ⟨zf_0_68, List.forall_mem_cons.mpr ⟨zf_0_65, List.forall_mem_cons.mpr ⟨zf_0_118, List.forall_mem_cons.mpr ⟨zf_0_115, List.forall_mem_cons.mpr ⟨zf_0_9, List.forall_mem_cons.mpr ⟨zf_0_15, List.forall_mem_cons.mpr ⟨zf_0_18, List.forall_mem_cons.mpr ⟨zf_0_23, List.forall_mem_cons.mpr ⟨zf_0_44, List.forall_mem_cons.mpr ⟨zf_0_47, List.forall_mem_cons.mpr ⟨zf_0_50, List.forall_mem_cons.mpr ⟨zf_0_28, List.forall_mem_nil _⟩⟩⟩⟩⟩⟩⟩⟩⟩⟩⟩⟩⟩⟩, ⟨List.forall_mem_cons.mpr ⟨zf_1_9, List.forall_mem_cons.mpr ⟨zf_1_15, List.forall_mem_cons.mpr ⟨zf_1_18, List.forall_mem_cons.mpr ⟨zf_1_21, List.forall_mem_cons.mpr ⟨zf_1_24, List.forall_mem_cons.mpr ⟨zf_1_27, List.forall_mem_cons.mpr ⟨zf_1_30, List.forall_mem_nil _⟩⟩⟩⟩⟩⟩⟩, ⟨List.forall_mem_cons.mpr ⟨zf_2_9, List.forall_mem_cons.mpr ⟨zf_2_15, List.forall_mem_nil _⟩⟩, ⟨List.forall_mem_cons.mpr ⟨zf_3_113, List.forall_mem_cons.mpr ⟨zf_3_131, List.forall_mem_cons.mpr ⟨zf_3_137, List.forall_mem_cons.mpr ⟨zf_3_103, List.forall_mem_cons.mpr ⟨zf_3_134, List.forall_mem_cons.mpr ⟨zf_3_88, List.forall_mem_cons.mpr ⟨zf_3_9, List.forall_mem_cons.mpr ⟨zf_3_15, List.forall_mem_cons.mpr ⟨zf_3_19, List.forall_mem_cons.mpr ⟨zf_3_146, List.forall_mem_cons.mpr ⟨zf_3_31, List.forall_mem_cons.mpr ⟨zf_3_37, List.forall_mem_cons.mpr ⟨zf_3_95, List.forall_mem_cons.mpr ⟨zf_3_28, List.forall_mem_nil _⟩⟩⟩⟩⟩⟩⟩⟩⟩⟩⟩⟩⟩⟩, ⟨List.forall_mem_cons.mpr ⟨zf_4_23, List.forall_mem_cons.mpr ⟨zf_4_29, List.forall_mem_cons.mpr ⟨zf_4_9, List.forall_mem_cons.mpr ⟨zf_4_15, List.forall_mem_cons.mpr ⟨zf_4_28, List.forall_mem_cons.mpr ⟨zf_4_32, List.forall_mem_cons.mpr ⟨zf_4_33, List.forall_mem_cons.mpr ⟨zf_4_19, List.forall_mem_nil _⟩⟩⟩⟩⟩⟩⟩⟩, ⟨List.forall_mem_cons.mpr ⟨zf_5_130, List.forall_mem_cons.mpr ⟨zf_5_135, List.forall_mem_cons.mpr ⟨zf_5_138, List.forall_mem_cons.mpr ⟨zf_5_141, List.forall_mem_cons.mpr ⟨zf_5_144, List.forall_mem_cons.mpr ⟨zf_5_151, List.forall_mem_cons.mpr ⟨zf_5_154, List.forall_mem_cons.mpr ⟨zf_5_87, List.forall_mem_cons.mpr ⟨zf_5_103, List.forall_mem_cons.mpr ⟨zf_5_106, List.forall_mem_cons.mpr ⟨zf_5_126, List.forall_mem_cons.mpr ⟨zf_5_96, List.forall_mem_cons.mpr ⟨zf_5_74, List.forall_mem_cons.mpr ⟨zf_5_168, List.forall_mem_cons.mpr ⟨zf_5_64, List.forall_mem_cons.mpr ⟨zf_5_56, List.forall_mem_cons.mpr ⟨zf_5_273, List.forall_mem_cons.mpr ⟨zf_5_270, List.forall_mem_cons.mpr ⟨zf_5_12, List.forall_mem_cons.mpr ⟨zf_5_16, List.forall_mem_cons.mpr ⟨zf_5_19, List.forall_mem_cons.mpr ⟨zf_5_279, List.forall_mem_cons.mpr ⟨zf_5_25, List.forall_mem_cons.mpr ⟨zf_5_29, List.forall_mem_cons.mpr ⟨zf_5_71, List.forall_mem_cons.mpr ⟨zf_5_35, List.forall_mem_cons.mpr ⟨zf_5_39, List.forall_mem_cons.mpr ⟨zf_5_42, List.forall_mem_cons.mpr ⟨zf_5_48, List.forall_mem_cons.mpr ⟨zf_5_228, List.forall_mem_cons.mpr ⟨zf_5_231, List.forall_mem_nil _⟩⟩⟩⟩⟩⟩⟩⟩⟩⟩⟩⟩⟩⟩⟩⟩⟩⟩⟩⟩⟩⟩⟩⟩⟩⟩⟩⟩⟩⟩⟩, ⟨List.forall_mem_cons.mpr ⟨zf_6_7, List.forall_mem_cons.mpr ⟨zf_6_231, List.forall_mem_cons.mpr ⟨zf_6_13, List.forall_mem_cons.mpr ⟨zf_6_16, List.forall_mem_cons.mpr ⟨zf_6_96, List.forall_mem_cons.mpr ⟨zf_6_19, List.forall_mem_cons.mpr ⟨zf_6_22, List.forall_mem_cons.mpr ⟨zf_6_25, List.forall_mem_cons.mpr ⟨zf_6_28, List.forall_mem_cons.mpr ⟨zf_6_31, List.forall_mem_cons.mpr ⟨zf_6_103, List.forall_mem_cons.mpr ⟨zf_6_34, List.forall_mem_cons.mpr ⟨zf_6_38, List.forall_mem_cons.mpr ⟨zf_6_106, List.forall_mem_cons.mpr ⟨zf_6_128, List.forall_mem_cons.mpr ⟨zf_6_114, List.forall_mem_cons.mpr ⟨zf_6_111, List.forall_mem_cons.mpr ⟨zf_6_131, List.forall_mem_cons.mpr ⟨zf_6_135, List.forall_mem_cons.mpr ⟨zf_6_166, List.forall_mem_cons.mpr ⟨zf_6_176, List.forall_mem_cons.mpr ⟨zf_6_198, List.forall_mem_cons.mpr ⟨zf_6_41, List.forall_mem_cons.mpr ⟨zf_6_44, List.forall_mem_cons.mpr ⟨zf_6_47, List.forall_mem_cons.mpr ⟨zf_6_50, List.forall_mem_cons.mpr ⟨zf_6_53, List.forall_mem_cons.mpr ⟨zf_6_56, List.forall_mem_cons.mpr ⟨zf_6_59, List.forall_mem_cons.mpr ⟨zf_6_265, List.forall_mem_cons.mpr ⟨zf_6_268, List.forall_mem_cons.mpr ⟨zf_6_62, List.forall_mem_cons.mpr ⟨zf_6_65, List.forall_mem_cons.mpr ⟨zf_6_228, List.forall_mem_cons.mpr ⟨zf_6_317, List.forall_mem_cons.mpr ⟨zf_6_68, List.forall_mem_cons.mpr ⟨zf_6_71, List.forall_mem_cons.mpr ⟨zf_6_74, List.forall_mem_cons.mpr ⟨zf_6_78, List.forall_mem_cons.mpr ⟨zf_6_81, List.forall_mem_cons.mpr ⟨zf_6_84, List.forall_mem_cons.mpr ⟨zf_6_355, List.forall_mem_cons.mpr ⟨zf_6_349, List.forall_mem_cons.mpr ⟨zf_6_367, List.forall_mem_cons.mpr ⟨zf_6_87, List.forall_mem_cons.mpr ⟨zf_6_343, List.forall_mem_cons.mpr ⟨zf_6_370, List.forall_mem_cons.mpr ⟨zf_6_399, List.forall_mem_cons.mpr ⟨zf_6_90, List.forall_mem_cons.mpr ⟨zf_6_388, List.forall_mem_cons.mpr ⟨zf_6_93, List.forall_mem_nil _⟩⟩⟩⟩⟩⟩⟩⟩⟩⟩⟩⟩⟩⟩⟩⟩⟩⟩⟩⟩⟩⟩⟩⟩⟩⟩⟩⟩⟩⟩⟩⟩⟩⟩⟩⟩⟩⟩⟩⟩⟩⟩⟩⟩⟩⟩⟩⟩⟩⟩⟩, ⟨List.forall_mem_nil _, ⟨List.forall_mem_nil _, ⟨List.forall_mem_nil _, ⟨List.forall_mem_nil _, ⟨List.forall_mem_nil _, ⟨List.forall_mem_nil _, trivial⟩⟩⟩⟩⟩⟩⟩⟩⟩⟩⟩⟩⟩
def zsnm : List String := ["LAW_LEAST", "LAW_MOST", "LAW_FIRST", "KIND_ABOVE"]
def zPs (c : Nat) (e : Nat × Nat) : Prop := ∃ own nm, zat zcn c = some own ∧ zat zsnm e.2 = some nm ∧ (Cond.fieldLink own e.1 "LastDays" nm "[I" ∈ lw_tbl ∨ Cond.fieldLinkNest own e.1 "LastDays" nm "[I" "LastDays" ∈ lw_tbl)
set_option maxRecDepth 20000 in
theorem zs_0_35 : zPs 0 (35, 2) := ⟨_, _, rfl, rfl, Or.inr (List.mem_of_getElem? (i := 157) (by decide +kernel))⟩
set_option maxRecDepth 20000 in
theorem zs_3_124 : zPs 3 (124, 0) := ⟨_, _, rfl, rfl, Or.inr (List.mem_of_getElem? (i := 425) (by decide +kernel))⟩
set_option maxRecDepth 20000 in
theorem zs_3_128 : zPs 3 (128, 1) := ⟨_, _, rfl, rfl, Or.inr (List.mem_of_getElem? (i := 427) (by decide +kernel))⟩
set_option maxRecDepth 20000 in
theorem zs_5_81 : zPs 5 (81, 0) := ⟨_, _, rfl, rfl, Or.inl (List.mem_of_getElem? (i := 460) (by decide +kernel))⟩
set_option maxRecDepth 20000 in
theorem zs_5_84 : zPs 5 (84, 1) := ⟨_, _, rfl, rfl, Or.inl (List.mem_of_getElem? (i := 461) (by decide +kernel))⟩
set_option maxRecDepth 20000 in
theorem zs_5_283 : zPs 5 (283, 3) := ⟨_, _, rfl, rfl, Or.inl (List.mem_of_getElem? (i := 756) (by decide +kernel))⟩
set_option maxRecDepth 20000 in
theorem zs_all : zall zPs 0 zslT := ⟨List.forall_mem_cons.mpr ⟨zs_0_35, List.forall_mem_nil _⟩, ⟨List.forall_mem_nil _, ⟨List.forall_mem_nil _, ⟨List.forall_mem_cons.mpr ⟨zs_3_124, List.forall_mem_cons.mpr ⟨zs_3_128, List.forall_mem_nil _⟩⟩, ⟨List.forall_mem_nil _, ⟨List.forall_mem_cons.mpr ⟨zs_5_81, List.forall_mem_cons.mpr ⟨zs_5_84, List.forall_mem_cons.mpr ⟨zs_5_283, List.forall_mem_nil _⟩⟩⟩, ⟨List.forall_mem_nil _, ⟨List.forall_mem_nil _, ⟨List.forall_mem_nil _, ⟨List.forall_mem_nil _, ⟨List.forall_mem_nil _, ⟨List.forall_mem_nil _, ⟨List.forall_mem_nil _, trivial⟩⟩⟩⟩⟩⟩⟩⟩⟩⟩⟩⟩⟩
def zPc (c : Nat) (e : Nat × Nat) : Prop := ∃ own CC T N, zat zcn c = some own ∧ vwCl[e.2]? = some (CC, T, N) ∧ Cond.classLink own e.1 CC ∈ lw_tbl
set_option maxRecDepth 20000 in
theorem zc_0_21 : zPc 0 (21, 1) := ⟨_, _, _, _, rfl, rfl, List.mem_of_getElem? (i := 107) (by decide +kernel)⟩
set_option maxRecDepth 20000 in
theorem zc_5_9 : zPc 5 (9, 0) := ⟨_, _, _, _, rfl, rfl, List.mem_of_getElem? (i := 101) (by decide +kernel)⟩
set_option maxRecDepth 20000 in
theorem zc_5_22 : zPc 5 (22, 3) := ⟨_, _, _, _, rfl, rfl, List.mem_of_getElem? (i := 200) (by decide +kernel)⟩
set_option maxRecDepth 20000 in
theorem zc_5_33 : zPc 5 (33, 2) := ⟨_, _, _, _, rfl, rfl, List.mem_of_getElem? (i := 233) (by decide +kernel)⟩
set_option maxRecDepth 20000 in
theorem zc_5_45 : zPc 5 (45, 4) := ⟨_, _, _, _, rfl, rfl, List.mem_of_getElem? (i := 235) (by decide +kernel)⟩
set_option maxRecDepth 20000 in
theorem zc_9_7 : zPc 9 (7, 5) := ⟨_, _, _, _, rfl, rfl, List.mem_of_getElem? (i := 93) (by decide +kernel)⟩
set_option maxRecDepth 20000 in
theorem zc_9_10 : zPc 9 (10, 6) := ⟨_, _, _, _, rfl, rfl, List.mem_of_getElem? (i := 818) (by decide +kernel)⟩
set_option maxRecDepth 20000 in
theorem zc_all : zall zPc 0 zclT := ⟨List.forall_mem_cons.mpr ⟨zc_0_21, List.forall_mem_nil _⟩, ⟨List.forall_mem_nil _, ⟨List.forall_mem_nil _, ⟨List.forall_mem_nil _, ⟨List.forall_mem_nil _, ⟨List.forall_mem_cons.mpr ⟨zc_5_9, List.forall_mem_cons.mpr ⟨zc_5_22, List.forall_mem_cons.mpr ⟨zc_5_33, List.forall_mem_cons.mpr ⟨zc_5_45, List.forall_mem_nil _⟩⟩⟩⟩, ⟨List.forall_mem_nil _, ⟨List.forall_mem_nil _, ⟨List.forall_mem_nil _, ⟨List.forall_mem_cons.mpr ⟨zc_9_7, List.forall_mem_cons.mpr ⟨zc_9_10, List.forall_mem_nil _⟩⟩, ⟨List.forall_mem_nil _, ⟨List.forall_mem_nil _, ⟨List.forall_mem_nil _, trivial⟩⟩⟩⟩⟩⟩⟩⟩⟩⟩⟩⟩⟩
def zPa (c : Nat) (e : Nat × Nat) : Prop := ∃ own CC, zat zcn c = some own ∧ ((e.2 = 3 ∧ CC = "LastDays$Person") ∨ (e.2 = 4 ∧ CC = "LastDays$Sheet")) ∧ Cond.classLink own e.1 CC ∈ lw_tbl ∧ Cond.arrayOver (.object CC) ∈ lw_tbl
set_option maxRecDepth 20000 in
theorem za_0_21 : zPa 0 (21, 3) := ⟨_, _, rfl, Or.inl ⟨rfl, rfl⟩, List.mem_of_getElem? (i := 107) (by decide +kernel), List.mem_of_getElem? (i := 108) (by decide +kernel)⟩
set_option maxRecDepth 20000 in
theorem za_5_33 : zPa 5 (33, 4) := ⟨_, _, rfl, Or.inr ⟨rfl, rfl⟩, List.mem_of_getElem? (i := 233) (by decide +kernel), List.mem_of_getElem? (i := 234) (by decide +kernel)⟩
set_option maxRecDepth 20000 in
theorem za_all : zall zPa 0 zalT := ⟨List.forall_mem_cons.mpr ⟨za_0_21, List.forall_mem_nil _⟩, ⟨List.forall_mem_nil _, ⟨List.forall_mem_nil _, ⟨List.forall_mem_nil _, ⟨List.forall_mem_nil _, ⟨List.forall_mem_cons.mpr ⟨za_5_33, List.forall_mem_nil _⟩, ⟨List.forall_mem_nil _, ⟨List.forall_mem_nil _, ⟨List.forall_mem_nil _, ⟨List.forall_mem_nil _, ⟨List.forall_mem_nil _, ⟨List.forall_mem_nil _, ⟨List.forall_mem_nil _, trivial⟩⟩⟩⟩⟩⟩⟩⟩⟩⟩⟩⟩⟩
def zynm (j : Nat) : Option MethodName := if j = 1000 then some objectInit else if j = 1001 then some arraycopyName else if j = 1004 then some Lib.Math.max.name else if j = 1005 then some Lib.Math.min.name else (zat zyt j).map (fun y => y.1)
def zPl (c : Nat) (e : Nat × Nat) : Prop := ∃ own y, zat zcn c = some own ∧ zynm e.2 = some y ∧ (Cond.methodLink own e.1 y ∈ lw_tbl ∨ Cond.methodLinkNest own e.1 y "LastDays" ∈ lw_tbl ∧ e.2 < 1000)
set_option maxRecDepth 20000 in
theorem zl_0_3 : zPl 0 (3, 1000) := ⟨_, _, rfl, rfl, Or.inl (List.mem_of_getElem? (i := 106) (by decide +kernel))⟩
set_option maxRecDepth 20000 in
theorem zl_0_27 : zPl 0 (27, 22) := ⟨_, _, rfl, rfl, Or.inr ⟨List.mem_of_getElem? (i := 110) (by decide +kernel), by decide⟩⟩
set_option maxRecDepth 20000 in
theorem zl_0_32 : zPl 0 (32, 1) := ⟨_, _, rfl, rfl, Or.inl (List.mem_of_getElem? (i := 153) (by decide +kernel))⟩
set_option maxRecDepth 20000 in
theorem zl_0_38 : zPl 0 (38, 1001) := ⟨_, _, rfl, rfl, Or.inl (List.mem_of_getElem? (i := 159) (by decide +kernel))⟩
set_option maxRecDepth 20000 in
theorem zl_0_57 : zPl 0 (57, 23) := ⟨_, _, rfl, rfl, Or.inl (List.mem_of_getElem? (i := 407) (by decide +kernel))⟩
set_option maxRecDepth 20000 in
theorem zl_0_53 : zPl 0 (53, 24) := ⟨_, _, rfl, rfl, Or.inl (List.mem_of_getElem? (i := 449) (by decide +kernel))⟩
set_option maxRecDepth 20000 in
theorem zl_0_80 : zPl 0 (80, 25) := ⟨_, _, rfl, rfl, Or.inl (List.mem_of_getElem? (i := 515) (by decide +kernel))⟩
set_option maxRecDepth 20000 in
theorem zl_0_103 : zPl 0 (103, 1005) := ⟨_, _, rfl, rfl, Or.inl (List.mem_of_getElem? (i := 516) (by decide +kernel))⟩
set_option maxRecDepth 20000 in
theorem zl_0_74 : zPl 0 (74, 1004) := ⟨_, _, rfl, rfl, Or.inl (List.mem_of_getElem? (i := 519) (by decide +kernel))⟩
set_option maxRecDepth 20000 in
theorem zl_0_61 : zPl 0 (61, 27) := ⟨_, _, rfl, rfl, Or.inl (List.mem_of_getElem? (i := 545) (by decide +kernel))⟩
set_option maxRecDepth 20000 in
theorem zl_0_71 : zPl 0 (71, 9) := ⟨_, _, rfl, rfl, Or.inl (List.mem_of_getElem? (i := 561) (by decide +kernel))⟩
set_option maxRecDepth 20000 in
theorem zl_0_84 : zPl 0 (84, 26) := ⟨_, _, rfl, rfl, Or.inl (List.mem_of_getElem? (i := 566) (by decide +kernel))⟩
set_option maxRecDepth 20000 in
theorem zl_0_88 : zPl 0 (88, 8) := ⟨_, _, rfl, rfl, Or.inl (List.mem_of_getElem? (i := 570) (by decide +kernel))⟩
set_option maxRecDepth 20000 in
theorem zl_0_92 : zPl 0 (92, 10) := ⟨_, _, rfl, rfl, Or.inl (List.mem_of_getElem? (i := 571) (by decide +kernel))⟩
set_option maxRecDepth 20000 in
theorem zl_0_96 : zPl 0 (96, 11) := ⟨_, _, rfl, rfl, Or.inl (List.mem_of_getElem? (i := 572) (by decide +kernel))⟩
set_option maxRecDepth 20000 in
theorem zl_0_99 : zPl 0 (99, 13) := ⟨_, _, rfl, rfl, Or.inl (List.mem_of_getElem? (i := 573) (by decide +kernel))⟩
set_option maxRecDepth 20000 in
theorem zl_0_121 : zPl 0 (121, 17) := ⟨_, _, rfl, rfl, Or.inl (List.mem_of_getElem? (i := 590) (by decide +kernel))⟩
set_option maxRecDepth 20000 in
theorem zl_0_129 : zPl 0 (129, 14) := ⟨_, _, rfl, rfl, Or.inl (List.mem_of_getElem? (i := 594) (by decide +kernel))⟩
set_option maxRecDepth 20000 in
theorem zl_0_112 : zPl 0 (112, 12) := ⟨_, _, rfl, rfl, Or.inl (List.mem_of_getElem? (i := 598) (by decide +kernel))⟩
set_option maxRecDepth 20000 in
theorem zl_0_125 : zPl 0 (125, 18) := ⟨_, _, rfl, rfl, Or.inl (List.mem_of_getElem? (i := 615) (by decide +kernel))⟩
set_option maxRecDepth 20000 in
theorem zl_1_3 : zPl 1 (3, 1000) := ⟨_, _, rfl, rfl, Or.inl (List.mem_of_getElem? (i := 113) (by decide +kernel))⟩
set_option maxRecDepth 20000 in
theorem zl_2_3 : zPl 2 (3, 1000) := ⟨_, _, rfl, rfl, Or.inl (List.mem_of_getElem? (i := 707) (by decide +kernel))⟩
set_option maxRecDepth 20000 in
theorem zl_3_3 : zPl 3 (3, 1000) := ⟨_, _, rfl, rfl, Or.inl (List.mem_of_getElem? (i := 205) (by decide +kernel))⟩
set_option maxRecDepth 20000 in
theorem zl_3_23 : zPl 3 (23, 1) := ⟨_, _, rfl, rfl, Or.inl (List.mem_of_getElem? (i := 312) (by decide +kernel))⟩
set_option maxRecDepth 20000 in
theorem zl_3_34 : zPl 3 (34, 45) := ⟨_, _, rfl, rfl, Or.inl (List.mem_of_getElem? (i := 313) (by decide +kernel))⟩
set_option maxRecDepth 20000 in
theorem zl_3_157 : zPl 3 (157, 46) := ⟨_, _, rfl, rfl, Or.inl (List.mem_of_getElem? (i := 317) (by decide +kernel))⟩
set_option maxRecDepth 20000 in
theorem zl_3_40 : zPl 3 (40, 34) := ⟨_, _, rfl, rfl, Or.inl (List.mem_of_getElem? (i := 320) (by decide +kernel))⟩
set_option maxRecDepth 20000 in
theorem zl_3_46 : zPl 3 (46, 35) := ⟨_, _, rfl, rfl, Or.inl (List.mem_of_getElem? (i := 324) (by decide +kernel))⟩
set_option maxRecDepth 20000 in
theorem zl_3_56 : zPl 3 (56, 42) := ⟨_, _, rfl, rfl, Or.inl (List.mem_of_getElem? (i := 329) (by decide +kernel))⟩
set_option maxRecDepth 20000 in
theorem zl_3_149 : zPl 3 (149, 214) := ⟨_, _, rfl, rfl, Or.inl (List.mem_of_getElem? (i := 333) (by decide +kernel))⟩
set_option maxRecDepth 20000 in
theorem zl_3_153 : zPl 3 (153, 215) := ⟨_, _, rfl, rfl, Or.inl (List.mem_of_getElem? (i := 343) (by decide +kernel))⟩
set_option maxRecDepth 20000 in
theorem zl_3_50 : zPl 3 (50, 36) := ⟨_, _, rfl, rfl, Or.inl (List.mem_of_getElem? (i := 386) (by decide +kernel))⟩
set_option maxRecDepth 20000 in
theorem zl_3_72 : zPl 3 (72, 44) := ⟨_, _, rfl, rfl, Or.inl (List.mem_of_getElem? (i := 390) (by decide +kernel))⟩
set_option maxRecDepth 20000 in
theorem zl_3_91 : zPl 3 (91, 39) := ⟨_, _, rfl, rfl, Or.inl (List.mem_of_getElem? (i := 394) (by decide +kernel))⟩
set_option maxRecDepth 20000 in
theorem zl_3_100 : zPl 3 (100, 40) := ⟨_, _, rfl, rfl, Or.inl (List.mem_of_getElem? (i := 399) (by decide +kernel))⟩
set_option maxRecDepth 20000 in
theorem zl_3_107 : zPl 3 (107, 3) := ⟨_, _, rfl, rfl, Or.inl (List.mem_of_getElem? (i := 403) (by decide +kernel))⟩
set_option maxRecDepth 20000 in
theorem zl_3_117 : zPl 3 (117, 43) := ⟨_, _, rfl, rfl, Or.inl (List.mem_of_getElem? (i := 412) (by decide +kernel))⟩
set_option maxRecDepth 20000 in
theorem zl_3_121 : zPl 3 (121, 41) := ⟨_, _, rfl, rfl, Or.inl (List.mem_of_getElem? (i := 416) (by decide +kernel))⟩
set_option maxRecDepth 20000 in
theorem zl_3_60 : zPl 3 (60, 37) := ⟨_, _, rfl, rfl, Or.inl (List.mem_of_getElem? (i := 421) (by decide +kernel))⟩
set_option maxRecDepth 20000 in
theorem zl_3_69 : zPl 3 (69, 38) := ⟨_, _, rfl, rfl, Or.inl (List.mem_of_getElem? (i := 432) (by decide +kernel))⟩
set_option maxRecDepth 20000 in
theorem zl_3_142 : zPl 3 (142, 5) := ⟨_, _, rfl, rfl, Or.inl (List.mem_of_getElem? (i := 437) (by decide +kernel))⟩
set_option maxRecDepth 20000 in
theorem zl_3_43 : zPl 3 (43, 7) := ⟨_, _, rfl, rfl, Or.inl (List.mem_of_getElem? (i := 441) (by decide +kernel))⟩
set_option maxRecDepth 20000 in
theorem zl_4_3 : zPl 4 (3, 1000) := ⟨_, _, rfl, rfl, Or.inl (List.mem_of_getElem? (i := 240) (by decide +kernel))⟩
set_option maxRecDepth 20000 in
theorem zl_4_36 : zPl 4 (36, 52) := ⟨_, _, rfl, rfl, Or.inl (List.mem_of_getElem? (i := 774) (by decide +kernel))⟩
set_option maxRecDepth 20000 in
theorem zl_4_49 : zPl 4 (49, 51) := ⟨_, _, rfl, rfl, Or.inl (List.mem_of_getElem? (i := 778) (by decide +kernel))⟩
set_option maxRecDepth 20000 in
theorem zl_4_40 : zPl 4 (40, 53) := ⟨_, _, rfl, rfl, Or.inl (List.mem_of_getElem? (i := 782) (by decide +kernel))⟩
set_option maxRecDepth 20000 in
theorem zl_4_43 : zPl 4 (43, 54) := ⟨_, _, rfl, rfl, Or.inl (List.mem_of_getElem? (i := 786) (by decide +kernel))⟩
set_option maxRecDepth 20000 in
theorem zl_4_53 : zPl 4 (53, 56) := ⟨_, _, rfl, rfl, Or.inl (List.mem_of_getElem? (i := 790) (by decide +kernel))⟩
set_option maxRecDepth 20000 in
theorem zl_4_46 : zPl 4 (46, 55) := ⟨_, _, rfl, rfl, Or.inl (List.mem_of_getElem? (i := 794) (by decide +kernel))⟩
set_option maxRecDepth 20000 in
theorem zl_5_3 : zPl 5 (3, 1000) := ⟨_, _, rfl, rfl, Or.inl (List.mem_of_getElem? (i := 98) (by decide +kernel))⟩
set_option maxRecDepth 20000 in
theorem zl_5_11 : zPl 5 (11, 0) := ⟨_, _, rfl, rfl, Or.inl (List.mem_of_getElem? (i := 103) (by decide +kernel))⟩
set_option maxRecDepth 20000 in
theorem zl_5_24 : zPl 5 (24, 31) := ⟨_, _, rfl, rfl, Or.inr ⟨List.mem_of_getElem? (i := 202) (by decide +kernel), by decide⟩⟩
set_option maxRecDepth 20000 in
theorem zl_5_47 : zPl 5 (47, 47) := ⟨_, _, rfl, rfl, Or.inr ⟨List.mem_of_getElem? (i := 237) (by decide +kernel), by decide⟩⟩
set_option maxRecDepth 20000 in
theorem zl_5_52 : zPl 5 (52, 32) := ⟨_, _, rfl, rfl, Or.inl (List.mem_of_getElem? (i := 300) (by decide +kernel))⟩
set_option maxRecDepth 20000 in
theorem zl_5_60 : zPl 5 (60, 33) := ⟨_, _, rfl, rfl, Or.inl (List.mem_of_getElem? (i := 308) (by decide +kernel))⟩
set_option maxRecDepth 20000 in
theorem zl_5_67 : zPl 5 (67, 2) := ⟨_, _, rfl, rfl, Or.inl (List.mem_of_getElem? (i := 445) (by decide +kernel))⟩
set_option maxRecDepth 20000 in
theorem zl_5_77 : zPl 5 (77, 105) := ⟨_, _, rfl, rfl, Or.inl (List.mem_of_getElem? (i := 457) (by decide +kernel))⟩
set_option maxRecDepth 20000 in
theorem zl_5_90 : zPl 5 (90, 7) := ⟨_, _, rfl, rfl, Or.inl (List.mem_of_getElem? (i := 462) (by decide +kernel))⟩
set_option maxRecDepth 20000 in
theorem zl_5_93 : zPl 5 (93, 4) := ⟨_, _, rfl, rfl, Or.inl (List.mem_of_getElem? (i := 471) (by decide +kernel))⟩
set_option maxRecDepth 20000 in
theorem zl_5_99 : zPl 5 (99, 5) := ⟨_, _, rfl, rfl, Or.inl (List.mem_of_getElem? (i := 475) (by decide +kernel))⟩
set_option maxRecDepth 20000 in
theorem zl_5_109 : zPl 5 (109, 6) := ⟨_, _, rfl, rfl, Or.inl (List.mem_of_getElem? (i := 484) (by decide +kernel))⟩
set_option maxRecDepth 20000 in
theorem zl_5_113 : zPl 5 (113, 106) := ⟨_, _, rfl, rfl, Or.inl (List.mem_of_getElem? (i := 492) (by decide +kernel))⟩
set_option maxRecDepth 20000 in
theorem zl_5_116 : zPl 5 (116, 107) := ⟨_, _, rfl, rfl, Or.inl (List.mem_of_getElem? (i := 495) (by decide +kernel))⟩
set_option maxRecDepth 20000 in
theorem zl_5_119 : zPl 5 (119, 3) := ⟨_, _, rfl, rfl, Or.inl (List.mem_of_getElem? (i := 498) (by decide +kernel))⟩
set_option maxRecDepth 20000 in
theorem zl_5_123 : zPl 5 (123, 100) := ⟨_, _, rfl, rfl, Or.inl (List.mem_of_getElem? (i := 503) (by decide +kernel))⟩
set_option maxRecDepth 20000 in
theorem zl_5_147 : zPl 5 (147, 25) := ⟨_, _, rfl, rfl, Or.inl (List.mem_of_getElem? (i := 507) (by decide +kernel))⟩
set_option maxRecDepth 20000 in
theorem zl_5_157 : zPl 5 (157, 18) := ⟨_, _, rfl, rfl, Or.inl (List.mem_of_getElem? (i := 511) (by decide +kernel))⟩
set_option maxRecDepth 20000 in
theorem zl_5_162 : zPl 5 (162, 213) := ⟨_, _, rfl, rfl, Or.inl (List.mem_of_getElem? (i := 531) (by decide +kernel))⟩
set_option maxRecDepth 20000 in
theorem zl_5_171 : zPl 5 (171, 8) := ⟨_, _, rfl, rfl, Or.inl (List.mem_of_getElem? (i := 541) (by decide +kernel))⟩
set_option maxRecDepth 20000 in
theorem zl_5_175 : zPl 5 (175, 9) := ⟨_, _, rfl, rfl, Or.inl (List.mem_of_getElem? (i := 549) (by decide +kernel))⟩
set_option maxRecDepth 20000 in
theorem zl_5_178 : zPl 5 (178, 10) := ⟨_, _, rfl, rfl, Or.inl (List.mem_of_getElem? (i := 553) (by decide +kernel))⟩
set_option maxRecDepth 20000 in
theorem zl_5_182 : zPl 5 (182, 11) := ⟨_, _, rfl, rfl, Or.inl (List.mem_of_getElem? (i := 557) (by decide +kernel))⟩
set_option maxRecDepth 20000 in
theorem zl_5_186 : zPl 5 (186, 12) := ⟨_, _, rfl, rfl, Or.inl (List.mem_of_getElem? (i := 562) (by decide +kernel))⟩
set_option maxRecDepth 20000 in
theorem zl_5_189 : zPl 5 (189, 1005) := ⟨_, _, rfl, rfl, Or.inl (List.mem_of_getElem? (i := 585) (by decide +kernel))⟩
set_option maxRecDepth 20000 in
theorem zl_5_194 : zPl 5 (194, 15) := ⟨_, _, rfl, rfl, Or.inl (List.mem_of_getElem? (i := 586) (by decide +kernel))⟩
set_option maxRecDepth 20000 in
theorem zl_5_197 : zPl 5 (197, 99) := ⟨_, _, rfl, rfl, Or.inl (List.mem_of_getElem? (i := 603) (by decide +kernel))⟩
set_option maxRecDepth 20000 in
theorem zl_5_200 : zPl 5 (200, 16) := ⟨_, _, rfl, rfl, Or.inl (List.mem_of_getElem? (i := 611) (by decide +kernel))⟩
set_option maxRecDepth 20000 in
theorem zl_5_203 : zPl 5 (203, 20) := ⟨_, _, rfl, rfl, Or.inl (List.mem_of_getElem? (i := 624) (by decide +kernel))⟩
set_option maxRecDepth 20000 in
theorem zl_5_207 : zPl 5 (207, 19) := ⟨_, _, rfl, rfl, Or.inl (List.mem_of_getElem? (i := 632) (by decide +kernel))⟩
set_option maxRecDepth 20000 in
theorem zl_5_210 : zPl 5 (210, 26) := ⟨_, _, rfl, rfl, Or.inl (List.mem_of_getElem? (i := 652) (by decide +kernel))⟩
set_option maxRecDepth 20000 in
theorem zl_5_214 : zPl 5 (214, 14) := ⟨_, _, rfl, rfl, Or.inl (List.mem_of_getElem? (i := 670) (by decide +kernel))⟩
set_option maxRecDepth 20000 in
theorem zl_5_217 : zPl 5 (217, 101) := ⟨_, _, rfl, rfl, Or.inl (List.mem_of_getElem? (i := 675) (by decide +kernel))⟩
set_option maxRecDepth 20000 in
theorem zl_5_221 : zPl 5 (221, 102) := ⟨_, _, rfl, rfl, Or.inl (List.mem_of_getElem? (i := 687) (by decide +kernel))⟩
set_option maxRecDepth 20000 in
theorem zl_5_225 : zPl 5 (225, 108) := ⟨_, _, rfl, rfl, Or.inl (List.mem_of_getElem? (i := 695) (by decide +kernel))⟩
set_option maxRecDepth 20000 in
theorem zl_5_235 : zPl 5 (235, 1004) := ⟨_, _, rfl, rfl, Or.inl (List.mem_of_getElem? (i := 698) (by decide +kernel))⟩
set_option maxRecDepth 20000 in
theorem zl_5_238 : zPl 5 (238, 28) := ⟨_, _, rfl, rfl, Or.inl (List.mem_of_getElem? (i := 704) (by decide +kernel))⟩
set_option maxRecDepth 20000 in
theorem zl_5_241 : zPl 5 (241, 29) := ⟨_, _, rfl, rfl, Or.inl (List.mem_of_getElem? (i := 722) (by decide +kernel))⟩
set_option maxRecDepth 20000 in
theorem zl_5_244 : zPl 5 (244, 30) := ⟨_, _, rfl, rfl, Or.inl (List.mem_of_getElem? (i := 726) (by decide +kernel))⟩
set_option maxRecDepth 20000 in
theorem zl_5_248 : zPl 5 (248, 109) := ⟨_, _, rfl, rfl, Or.inl (List.mem_of_getElem? (i := 738) (by decide +kernel))⟩
set_option maxRecDepth 20000 in
theorem zl_5_251 : zPl 5 (251, 103) := ⟨_, _, rfl, rfl, Or.inl (List.mem_of_getElem? (i := 741) (by decide +kernel))⟩
set_option maxRecDepth 20000 in
theorem zl_5_254 : zPl 5 (254, 104) := ⟨_, _, rfl, rfl, Or.inl (List.mem_of_getElem? (i := 749) (by decide +kernel))⟩
set_option maxRecDepth 20000 in
theorem zl_5_257 : zPl 5 (257, 110) := ⟨_, _, rfl, rfl, Or.inl (List.mem_of_getElem? (i := 753) (by decide +kernel))⟩
set_option maxRecDepth 20000 in
theorem zl_5_260 : zPl 5 (260, 48) := ⟨_, _, rfl, rfl, Or.inl (List.mem_of_getElem? (i := 762) (by decide +kernel))⟩
set_option maxRecDepth 20000 in
theorem zl_5_263 : zPl 5 (263, 49) := ⟨_, _, rfl, rfl, Or.inl (List.mem_of_getElem? (i := 766) (by decide +kernel))⟩
set_option maxRecDepth 20000 in
theorem zl_5_267 : zPl 5 (267, 50) := ⟨_, _, rfl, rfl, Or.inl (List.mem_of_getElem? (i := 770) (by decide +kernel))⟩
set_option maxRecDepth 20000 in
theorem zl_5_276 : zPl 5 (276, 21) := ⟨_, _, rfl, rfl, Or.inl (List.mem_of_getElem? (i := 806) (by decide +kernel))⟩
set_option maxRecDepth 20000 in
theorem zl_6_1 : zPl 6 (1, 1000) := ⟨_, _, rfl, rfl, Or.inl (List.mem_of_getElem? (i := 823) (by decide +kernel))⟩
set_option maxRecDepth 20000 in
theorem zl_6_99 : zPl 6 (99, 112) := ⟨_, _, rfl, rfl, Or.inl (List.mem_of_getElem? (i := 982) (by decide +kernel))⟩
set_option maxRecDepth 20000 in
theorem zl_6_170 : zPl 6 (170, 122) := ⟨_, _, rfl, rfl, Or.inl (List.mem_of_getElem? (i := 990) (by decide +kernel))⟩
set_option maxRecDepth 20000 in
theorem zl_6_117 : zPl 6 (117, 119) := ⟨_, _, rfl, rfl, Or.inl (List.mem_of_getElem? (i := 994) (by decide +kernel))⟩
set_option maxRecDepth 20000 in
theorem zl_6_121 : zPl 6 (121, 120) := ⟨_, _, rfl, rfl, Or.inl (List.mem_of_getElem? (i := 998) (by decide +kernel))⟩
set_option maxRecDepth 20000 in
theorem zl_6_125 : zPl 6 (125, 121) := ⟨_, _, rfl, rfl, Or.inl (List.mem_of_getElem? (i := 1001) (by decide +kernel))⟩
set_option maxRecDepth 20000 in
theorem zl_6_222 : zPl 6 (222, 133) := ⟨_, _, rfl, rfl, Or.inl (List.mem_of_getElem? (i := 1007) (by decide +kernel))⟩
set_option maxRecDepth 20000 in
theorem zl_6_203 : zPl 6 (203, 125) := ⟨_, _, rfl, rfl, Or.inl (List.mem_of_getElem? (i := 1011) (by decide +kernel))⟩
set_option maxRecDepth 20000 in
theorem zl_6_146 : zPl 6 (146, 123) := ⟨_, _, rfl, rfl, Or.inl (List.mem_of_getElem? (i := 1016) (by decide +kernel))⟩
set_option maxRecDepth 20000 in
theorem zl_6_207 : zPl 6 (207, 130) := ⟨_, _, rfl, rfl, Or.inl (List.mem_of_getElem? (i := 1025) (by decide +kernel))⟩
set_option maxRecDepth 20000 in
theorem zl_6_179 : zPl 6 (179, 127) := ⟨_, _, rfl, rfl, Or.inl (List.mem_of_getElem? (i := 1029) (by decide +kernel))⟩
set_option maxRecDepth 20000 in
theorem zl_6_185 : zPl 6 (185, 128) := ⟨_, _, rfl, rfl, Or.inl (List.mem_of_getElem? (i := 1034) (by decide +kernel))⟩
set_option maxRecDepth 20000 in
theorem zl_6_173 : zPl 6 (173, 124) := ⟨_, _, rfl, rfl, Or.inl (List.mem_of_getElem? (i := 1039) (by decide +kernel))⟩
set_option maxRecDepth 20000 in
theorem zl_6_191 : zPl 6 (191, 129) := ⟨_, _, rfl, rfl, Or.inl (List.mem_of_getElem? (i := 1043) (by decide +kernel))⟩
set_option maxRecDepth 20000 in
theorem zl_6_211 : zPl 6 (211, 126) := ⟨_, _, rfl, rfl, Or.inl (List.mem_of_getElem? (i := 1047) (by decide +kernel))⟩
set_option maxRecDepth 20000 in
theorem zl_6_214 : zPl 6 (214, 131) := ⟨_, _, rfl, rfl, Or.inl (List.mem_of_getElem? (i := 1054) (by decide +kernel))⟩
set_option maxRecDepth 20000 in
theorem zl_6_194 : zPl 6 (194, 114) := ⟨_, _, rfl, rfl, Or.inl (List.mem_of_getElem? (i := 1058) (by decide +kernel))⟩
set_option maxRecDepth 20000 in
theorem zl_6_219 : zPl 6 (219, 132) := ⟨_, _, rfl, rfl, Or.inl (List.mem_of_getElem? (i := 1062) (by decide +kernel))⟩
set_option maxRecDepth 20000 in
theorem zl_6_225 : zPl 6 (225, 135) := ⟨_, _, rfl, rfl, Or.inl (List.mem_of_getElem? (i := 1067) (by decide +kernel))⟩
set_option maxRecDepth 20000 in
theorem zl_6_234 : zPl 6 (234, 137) := ⟨_, _, rfl, rfl, Or.inl (List.mem_of_getElem? (i := 1071) (by decide +kernel))⟩
set_option maxRecDepth 20000 in
theorem zl_6_237 : zPl 6 (237, 136) := ⟨_, _, rfl, rfl, Or.inl (List.mem_of_getElem? (i := 1075) (by decide +kernel))⟩
set_option maxRecDepth 20000 in
theorem zl_6_239 : zPl 6 (239, 140) := ⟨_, _, rfl, rfl, Or.inl (List.mem_of_getElem? (i := 1091) (by decide +kernel))⟩
set_option maxRecDepth 20000 in
theorem zl_6_242 : zPl 6 (242, 141) := ⟨_, _, rfl, rfl, Or.inl (List.mem_of_getElem? (i := 1095) (by decide +kernel))⟩
set_option maxRecDepth 20000 in
theorem zl_6_246 : zPl 6 (246, 142) := ⟨_, _, rfl, rfl, Or.inl (List.mem_of_getElem? (i := 1107) (by decide +kernel))⟩
set_option maxRecDepth 20000 in
theorem zl_6_252 : zPl 6 (252, 113) := ⟨_, _, rfl, rfl, Or.inl (List.mem_of_getElem? (i := 1119) (by decide +kernel))⟩
set_option maxRecDepth 20000 in
theorem zl_6_255 : zPl 6 (255, 148) := ⟨_, _, rfl, rfl, Or.inl (List.mem_of_getElem? (i := 1123) (by decide +kernel))⟩
set_option maxRecDepth 20000 in
theorem zl_6_258 : zPl 6 (258, 147) := ⟨_, _, rfl, rfl, Or.inl (List.mem_of_getElem? (i := 1126) (by decide +kernel))⟩
set_option maxRecDepth 20000 in
theorem zl_6_249 : zPl 6 (249, 115) := ⟨_, _, rfl, rfl, Or.inl (List.mem_of_getElem? (i := 1130) (by decide +kernel))⟩
set_option maxRecDepth 20000 in
theorem zl_6_262 : zPl 6 (262, 117) := ⟨_, _, rfl, rfl, Or.inl (List.mem_of_getElem? (i := 1143) (by decide +kernel))⟩
set_option maxRecDepth 20000 in
theorem zl_6_289 : zPl 6 (289, 158) := ⟨_, _, rfl, rfl, Or.inl (List.mem_of_getElem? (i := 1150) (by decide +kernel))⟩
set_option maxRecDepth 20000 in
theorem zl_6_280 : zPl 6 (280, 153) := ⟨_, _, rfl, rfl, Or.inl (List.mem_of_getElem? (i := 1154) (by decide +kernel))⟩
set_option maxRecDepth 20000 in
theorem zl_6_271 : zPl 6 (271, 152) := ⟨_, _, rfl, rfl, Or.inl (List.mem_of_getElem? (i := 1158) (by decide +kernel))⟩
set_option maxRecDepth 20000 in
theorem zl_6_283 : zPl 6 (283, 156) := ⟨_, _, rfl, rfl, Or.inl (List.mem_of_getElem? (i := 1162) (by decide +kernel))⟩
set_option maxRecDepth 20000 in
theorem zl_6_286 : zPl 6 (286, 157) := ⟨_, _, rfl, rfl, Or.inl (List.mem_of_getElem? (i := 1166) (by decide +kernel))⟩
set_option maxRecDepth 20000 in
theorem zl_6_274 : zPl 6 (274, 154) := ⟨_, _, rfl, rfl, Or.inl (List.mem_of_getElem? (i := 1170) (by decide +kernel))⟩
set_option maxRecDepth 20000 in
theorem zl_6_277 : zPl 6 (277, 155) := ⟨_, _, rfl, rfl, Or.inl (List.mem_of_getElem? (i := 1174) (by decide +kernel))⟩
set_option maxRecDepth 20000 in
theorem zl_6_298 : zPl 6 (298, 160) := ⟨_, _, rfl, rfl, Or.inl (List.mem_of_getElem? (i := 1186) (by decide +kernel))⟩
set_option maxRecDepth 20000 in
theorem zl_6_295 : zPl 6 (295, 159) := ⟨_, _, rfl, rfl, Or.inl (List.mem_of_getElem? (i := 1190) (by decide +kernel))⟩
set_option maxRecDepth 20000 in
theorem zl_6_292 : zPl 6 (292, 116) := ⟨_, _, rfl, rfl, Or.inl (List.mem_of_getElem? (i := 1194) (by decide +kernel))⟩
set_option maxRecDepth 20000 in
theorem zl_6_304 : zPl 6 (304, 165) := ⟨_, _, rfl, rfl, Or.inl (List.mem_of_getElem? (i := 1202) (by decide +kernel))⟩
set_option maxRecDepth 20000 in
theorem zl_6_301 : zPl 6 (301, 164) := ⟨_, _, rfl, rfl, Or.inl (List.mem_of_getElem? (i := 1206) (by decide +kernel))⟩
set_option maxRecDepth 20000 in
theorem zl_6_307 : zPl 6 (307, 166) := ⟨_, _, rfl, rfl, Or.inl (List.mem_of_getElem? (i := 1218) (by decide +kernel))⟩
set_option maxRecDepth 20000 in
theorem zl_6_310 : zPl 6 (310, 171) := ⟨_, _, rfl, rfl, Or.inl (List.mem_of_getElem? (i := 1234) (by decide +kernel))⟩
set_option maxRecDepth 20000 in
theorem zl_6_313 : zPl 6 (313, 170) := ⟨_, _, rfl, rfl, Or.inl (List.mem_of_getElem? (i := 1251) (by decide +kernel))⟩
set_option maxRecDepth 20000 in
theorem zl_6_320 : zPl 6 (320, 179) := ⟨_, _, rfl, rfl, Or.inl (List.mem_of_getElem? (i := 1265) (by decide +kernel))⟩
set_option maxRecDepth 20000 in
theorem zl_6_323 : zPl 6 (323, 181) := ⟨_, _, rfl, rfl, Or.inl (List.mem_of_getElem? (i := 1273) (by decide +kernel))⟩
set_option maxRecDepth 20000 in
theorem zl_6_326 : zPl 6 (326, 186) := ⟨_, _, rfl, rfl, Or.inl (List.mem_of_getElem? (i := 1289) (by decide +kernel))⟩
set_option maxRecDepth 20000 in
theorem zl_6_329 : zPl 6 (329, 189) := ⟨_, _, rfl, rfl, Or.inl (List.mem_of_getElem? (i := 1292) (by decide +kernel))⟩
set_option maxRecDepth 20000 in
theorem zl_6_334 : zPl 6 (334, 191) := ⟨_, _, rfl, rfl, Or.inl (List.mem_of_getElem? (i := 1313) (by decide +kernel))⟩
set_option maxRecDepth 20000 in
theorem zl_6_337 : zPl 6 (337, 193) := ⟨_, _, rfl, rfl, Or.inl (List.mem_of_getElem? (i := 1321) (by decide +kernel))⟩
set_option maxRecDepth 20000 in
theorem zl_6_340 : zPl 6 (340, 194) := ⟨_, _, rfl, rfl, Or.inl (List.mem_of_getElem? (i := 1325) (by decide +kernel))⟩
set_option maxRecDepth 20000 in
theorem zl_6_361 : zPl 6 (361, 199) := ⟨_, _, rfl, rfl, Or.inl (List.mem_of_getElem? (i := 1332) (by decide +kernel))⟩
set_option maxRecDepth 20000 in
theorem zl_6_358 : zPl 6 (358, 198) := ⟨_, _, rfl, rfl, Or.inl (List.mem_of_getElem? (i := 1336) (by decide +kernel))⟩
set_option maxRecDepth 20000 in
theorem zl_6_346 : zPl 6 (346, 196) := ⟨_, _, rfl, rfl, Or.inl (List.mem_of_getElem? (i := 1340) (by decide +kernel))⟩
set_option maxRecDepth 20000 in
theorem zl_6_352 : zPl 6 (352, 197) := ⟨_, _, rfl, rfl, Or.inl (List.mem_of_getElem? (i := 1344) (by decide +kernel))⟩
set_option maxRecDepth 20000 in
theorem zl_6_376 : zPl 6 (376, 201) := ⟨_, _, rfl, rfl, Or.inl (List.mem_of_getElem? (i := 1348) (by decide +kernel))⟩
set_option maxRecDepth 20000 in
theorem zl_6_364 : zPl 6 (364, 200) := ⟨_, _, rfl, rfl, Or.inl (List.mem_of_getElem? (i := 1352) (by decide +kernel))⟩
set_option maxRecDepth 20000 in
theorem zl_6_382 : zPl 6 (382, 203) := ⟨_, _, rfl, rfl, Or.inl (List.mem_of_getElem? (i := 1356) (by decide +kernel))⟩
set_option maxRecDepth 20000 in
theorem zl_6_373 : zPl 6 (373, 202) := ⟨_, _, rfl, rfl, Or.inl (List.mem_of_getElem? (i := 1360) (by decide +kernel))⟩
set_option maxRecDepth 20000 in
theorem zl_6_385 : zPl 6 (385, 205) := ⟨_, _, rfl, rfl, Or.inl (List.mem_of_getElem? (i := 1364) (by decide +kernel))⟩
set_option maxRecDepth 20000 in
theorem zl_6_379 : zPl 6 (379, 204) := ⟨_, _, rfl, rfl, Or.inl (List.mem_of_getElem? (i := 1368) (by decide +kernel))⟩
set_option maxRecDepth 20000 in
theorem zl_6_395 : zPl 6 (395, 210) := ⟨_, _, rfl, rfl, Or.inl (List.mem_of_getElem? (i := 1384) (by decide +kernel))⟩
set_option maxRecDepth 20000 in
theorem zl_6_391 : zPl 6 (391, 209) := ⟨_, _, rfl, rfl, Or.inl (List.mem_of_getElem? (i := 1388) (by decide +kernel))⟩
set_option maxRecDepth 20000 in
theorem zl_9_9 : zPl 9 (9, 57) := ⟨_, _, rfl, rfl, Or.inl (List.mem_of_getElem? (i := 95) (by decide +kernel))⟩
set_option maxRecDepth 20000 in
theorem zl_9_15 : zPl 9 (15, 58) := ⟨_, _, rfl, rfl, Or.inl (List.mem_of_getElem? (i := 296) (by decide +kernel))⟩
set_option maxRecDepth 20000 in
theorem zl_9_20 : zPl 9 (20, 59) := ⟨_, _, rfl, rfl, Or.inl (List.mem_of_getElem? (i := 304) (by decide +kernel))⟩
set_option maxRecDepth 20000 in
theorem zl_9_25 : zPl 9 (25, 60) := ⟨_, _, rfl, rfl, Or.inl (List.mem_of_getElem? (i := 453) (by decide +kernel))⟩
set_option maxRecDepth 20000 in
theorem zl_9_30 : zPl 9 (30, 61) := ⟨_, _, rfl, rfl, Or.inl (List.mem_of_getElem? (i := 463) (by decide +kernel))⟩
set_option maxRecDepth 20000 in
theorem zl_9_35 : zPl 9 (35, 62) := ⟨_, _, rfl, rfl, Or.inl (List.mem_of_getElem? (i := 467) (by decide +kernel))⟩
set_option maxRecDepth 20000 in
theorem zl_9_39 : zPl 9 (39, 63) := ⟨_, _, rfl, rfl, Or.inl (List.mem_of_getElem? (i := 476) (by decide +kernel))⟩
set_option maxRecDepth 20000 in
theorem zl_9_43 : zPl 9 (43, 64) := ⟨_, _, rfl, rfl, Or.inl (List.mem_of_getElem? (i := 480) (by decide +kernel))⟩
set_option maxRecDepth 20000 in
theorem zl_9_47 : zPl 9 (47, 65) := ⟨_, _, rfl, rfl, Or.inl (List.mem_of_getElem? (i := 488) (by decide +kernel))⟩
set_option maxRecDepth 20000 in
theorem zl_9_52 : zPl 9 (52, 66) := ⟨_, _, rfl, rfl, Or.inl (List.mem_of_getElem? (i := 499) (by decide +kernel))⟩
set_option maxRecDepth 20000 in
theorem zl_9_56 : zPl 9 (56, 67) := ⟨_, _, rfl, rfl, Or.inl (List.mem_of_getElem? (i := 522) (by decide +kernel))⟩
set_option maxRecDepth 20000 in
theorem zl_9_60 : zPl 9 (60, 68) := ⟨_, _, rfl, rfl, Or.inl (List.mem_of_getElem? (i := 526) (by decide +kernel))⟩
set_option maxRecDepth 20000 in
theorem zl_9_64 : zPl 9 (64, 69) := ⟨_, _, rfl, rfl, Or.inl (List.mem_of_getElem? (i := 537) (by decide +kernel))⟩
set_option maxRecDepth 20000 in
theorem zl_9_68 : zPl 9 (68, 70) := ⟨_, _, rfl, rfl, Or.inl (List.mem_of_getElem? (i := 577) (by decide +kernel))⟩
set_option maxRecDepth 20000 in
theorem zl_9_72 : zPl 9 (72, 71) := ⟨_, _, rfl, rfl, Or.inl (List.mem_of_getElem? (i := 581) (by decide +kernel))⟩
set_option maxRecDepth 20000 in
theorem zl_9_76 : zPl 9 (76, 72) := ⟨_, _, rfl, rfl, Or.inl (List.mem_of_getElem? (i := 599) (by decide +kernel))⟩
set_option maxRecDepth 20000 in
theorem zl_9_80 : zPl 9 (80, 73) := ⟨_, _, rfl, rfl, Or.inl (List.mem_of_getElem? (i := 607) (by decide +kernel))⟩
set_option maxRecDepth 20000 in
theorem zl_9_84 : zPl 9 (84, 74) := ⟨_, _, rfl, rfl, Or.inl (List.mem_of_getElem? (i := 616) (by decide +kernel))⟩
set_option maxRecDepth 20000 in
theorem zl_9_88 : zPl 9 (88, 75) := ⟨_, _, rfl, rfl, Or.inl (List.mem_of_getElem? (i := 620) (by decide +kernel))⟩
set_option maxRecDepth 20000 in
theorem zl_9_92 : zPl 9 (92, 76) := ⟨_, _, rfl, rfl, Or.inl (List.mem_of_getElem? (i := 628) (by decide +kernel))⟩
set_option maxRecDepth 20000 in
theorem zl_9_96 : zPl 9 (96, 77) := ⟨_, _, rfl, rfl, Or.inl (List.mem_of_getElem? (i := 636) (by decide +kernel))⟩
set_option maxRecDepth 20000 in
theorem zl_9_100 : zPl 9 (100, 78) := ⟨_, _, rfl, rfl, Or.inl (List.mem_of_getElem? (i := 640) (by decide +kernel))⟩
set_option maxRecDepth 20000 in
theorem zl_9_104 : zPl 9 (104, 79) := ⟨_, _, rfl, rfl, Or.inl (List.mem_of_getElem? (i := 644) (by decide +kernel))⟩
set_option maxRecDepth 20000 in
theorem zl_9_108 : zPl 9 (108, 80) := ⟨_, _, rfl, rfl, Or.inl (List.mem_of_getElem? (i := 648) (by decide +kernel))⟩
set_option maxRecDepth 20000 in
theorem zl_9_112 : zPl 9 (112, 81) := ⟨_, _, rfl, rfl, Or.inl (List.mem_of_getElem? (i := 653) (by decide +kernel))⟩
set_option maxRecDepth 20000 in
theorem zl_9_116 : zPl 9 (116, 82) := ⟨_, _, rfl, rfl, Or.inl (List.mem_of_getElem? (i := 657) (by decide +kernel))⟩
set_option maxRecDepth 20000 in
theorem zl_9_120 : zPl 9 (120, 83) := ⟨_, _, rfl, rfl, Or.inl (List.mem_of_getElem? (i := 661) (by decide +kernel))⟩
set_option maxRecDepth 20000 in
theorem zl_9_124 : zPl 9 (124, 84) := ⟨_, _, rfl, rfl, Or.inl (List.mem_of_getElem? (i := 666) (by decide +kernel))⟩
set_option maxRecDepth 20000 in
theorem zl_9_128 : zPl 9 (128, 85) := ⟨_, _, rfl, rfl, Or.inl (List.mem_of_getElem? (i := 671) (by decide +kernel))⟩
set_option maxRecDepth 20000 in
theorem zl_9_132 : zPl 9 (132, 86) := ⟨_, _, rfl, rfl, Or.inl (List.mem_of_getElem? (i := 679) (by decide +kernel))⟩
set_option maxRecDepth 20000 in
theorem zl_9_136 : zPl 9 (136, 87) := ⟨_, _, rfl, rfl, Or.inl (List.mem_of_getElem? (i := 683) (by decide +kernel))⟩
set_option maxRecDepth 20000 in
theorem zl_9_140 : zPl 9 (140, 88) := ⟨_, _, rfl, rfl, Or.inl (List.mem_of_getElem? (i := 691) (by decide +kernel))⟩
set_option maxRecDepth 20000 in
theorem zl_9_145 : zPl 9 (145, 89) := ⟨_, _, rfl, rfl, Or.inl (List.mem_of_getElem? (i := 699) (by decide +kernel))⟩
set_option maxRecDepth 20000 in
theorem zl_9_149 : zPl 9 (149, 90) := ⟨_, _, rfl, rfl, Or.inl (List.mem_of_getElem? (i := 718) (by decide +kernel))⟩
set_option maxRecDepth 20000 in
theorem zl_9_153 : zPl 9 (153, 91) := ⟨_, _, rfl, rfl, Or.inl (List.mem_of_getElem? (i := 730) (by decide +kernel))⟩
set_option maxRecDepth 20000 in
theorem zl_9_157 : zPl 9 (157, 92) := ⟨_, _, rfl, rfl, Or.inl (List.mem_of_getElem? (i := 734) (by decide +kernel))⟩
set_option maxRecDepth 20000 in
theorem zl_9_161 : zPl 9 (161, 93) := ⟨_, _, rfl, rfl, Or.inl (List.mem_of_getElem? (i := 745) (by decide +kernel))⟩
set_option maxRecDepth 20000 in
theorem zl_9_165 : zPl 9 (165, 94) := ⟨_, _, rfl, rfl, Or.inl (List.mem_of_getElem? (i := 758) (by decide +kernel))⟩
set_option maxRecDepth 20000 in
theorem zl_9_169 : zPl 9 (169, 95) := ⟨_, _, rfl, rfl, Or.inl (List.mem_of_getElem? (i := 798) (by decide +kernel))⟩
set_option maxRecDepth 20000 in
theorem zl_9_173 : zPl 9 (173, 96) := ⟨_, _, rfl, rfl, Or.inl (List.mem_of_getElem? (i := 802) (by decide +kernel))⟩
set_option maxRecDepth 20000 in
theorem zl_9_177 : zPl 9 (177, 97) := ⟨_, _, rfl, rfl, Or.inl (List.mem_of_getElem? (i := 810) (by decide +kernel))⟩
set_option maxRecDepth 20000 in
theorem zl_9_181 : zPl 9 (181, 98) := ⟨_, _, rfl, rfl, Or.inl (List.mem_of_getElem? (i := 814) (by decide +kernel))⟩
set_option maxRecDepth 20000 in
theorem zl_9_12 : zPl 9 (12, 111) := ⟨_, _, rfl, rfl, Or.inl (List.mem_of_getElem? (i := 820) (by decide +kernel))⟩
set_option maxRecDepth 20000 in
theorem zl_9_19 : zPl 9 (19, 118) := ⟨_, _, rfl, rfl, Or.inl (List.mem_of_getElem? (i := 978) (by decide +kernel))⟩
set_option maxRecDepth 20000 in
theorem zl_9_24 : zPl 9 (24, 134) := ⟨_, _, rfl, rfl, Or.inl (List.mem_of_getElem? (i := 986) (by decide +kernel))⟩
set_option maxRecDepth 20000 in
theorem zl_9_29 : zPl 9 (29, 138) := ⟨_, _, rfl, rfl, Or.inl (List.mem_of_getElem? (i := 1079) (by decide +kernel))⟩
set_option maxRecDepth 20000 in
theorem zl_9_34 : zPl 9 (34, 139) := ⟨_, _, rfl, rfl, Or.inl (List.mem_of_getElem? (i := 1083) (by decide +kernel))⟩
set_option maxRecDepth 20000 in
theorem zl_9_38 : zPl 9 (38, 143) := ⟨_, _, rfl, rfl, Or.inl (List.mem_of_getElem? (i := 1087) (by decide +kernel))⟩
set_option maxRecDepth 20000 in
theorem zl_9_42 : zPl 9 (42, 144) := ⟨_, _, rfl, rfl, Or.inl (List.mem_of_getElem? (i := 1099) (by decide +kernel))⟩
set_option maxRecDepth 20000 in
theorem zl_9_46 : zPl 9 (46, 145) := ⟨_, _, rfl, rfl, Or.inl (List.mem_of_getElem? (i := 1103) (by decide +kernel))⟩
set_option maxRecDepth 20000 in
theorem zl_9_51 : zPl 9 (51, 146) := ⟨_, _, rfl, rfl, Or.inl (List.mem_of_getElem? (i := 1111) (by decide +kernel))⟩
set_option maxRecDepth 20000 in
theorem zl_9_55 : zPl 9 (55, 149) := ⟨_, _, rfl, rfl, Or.inl (List.mem_of_getElem? (i := 1115) (by decide +kernel))⟩
set_option maxRecDepth 20000 in
theorem zl_9_59 : zPl 9 (59, 150) := ⟨_, _, rfl, rfl, Or.inl (List.mem_of_getElem? (i := 1134) (by decide +kernel))⟩
set_option maxRecDepth 20000 in
theorem zl_9_63 : zPl 9 (63, 151) := ⟨_, _, rfl, rfl, Or.inl (List.mem_of_getElem? (i := 1138) (by decide +kernel))⟩
set_option maxRecDepth 20000 in
theorem zl_9_67 : zPl 9 (67, 161) := ⟨_, _, rfl, rfl, Or.inl (List.mem_of_getElem? (i := 1146) (by decide +kernel))⟩
set_option maxRecDepth 20000 in
theorem zl_9_71 : zPl 9 (71, 162) := ⟨_, _, rfl, rfl, Or.inl (List.mem_of_getElem? (i := 1178) (by decide +kernel))⟩
set_option maxRecDepth 20000 in
theorem zl_9_75 : zPl 9 (75, 163) := ⟨_, _, rfl, rfl, Or.inl (List.mem_of_getElem? (i := 1182) (by decide +kernel))⟩
set_option maxRecDepth 20000 in
theorem zl_9_79 : zPl 9 (79, 167) := ⟨_, _, rfl, rfl, Or.inl (List.mem_of_getElem? (i := 1198) (by decide +kernel))⟩
set_option maxRecDepth 20000 in
theorem zl_9_83 : zPl 9 (83, 168) := ⟨_, _, rfl, rfl, Or.inl (List.mem_of_getElem? (i := 1210) (by decide +kernel))⟩
set_option maxRecDepth 20000 in
theorem zl_9_87 : zPl 9 (87, 169) := ⟨_, _, rfl, rfl, Or.inl (List.mem_of_getElem? (i := 1214) (by decide +kernel))⟩
set_option maxRecDepth 20000 in
theorem zl_9_91 : zPl 9 (91, 170) := ⟨_, _, rfl, rfl, Or.inl (List.mem_of_getElem? (i := 1222) (by decide +kernel))⟩
set_option maxRecDepth 20000 in
theorem zl_9_95 : zPl 9 (95, 171) := ⟨_, _, rfl, rfl, Or.inl (List.mem_of_getElem? (i := 1226) (by decide +kernel))⟩
set_option maxRecDepth 20000 in
theorem zl_9_99 : zPl 9 (99, 172) := ⟨_, _, rfl, rfl, Or.inl (List.mem_of_getElem? (i := 1230) (by decide +kernel))⟩
set_option maxRecDepth 20000 in
theorem zl_9_103 : zPl 9 (103, 173) := ⟨_, _, rfl, rfl, Or.inl (List.mem_of_getElem? (i := 1235) (by decide +kernel))⟩
set_option maxRecDepth 20000 in
theorem zl_9_107 : zPl 9 (107, 174) := ⟨_, _, rfl, rfl, Or.inl (List.mem_of_getElem? (i := 1239) (by decide +kernel))⟩
set_option maxRecDepth 20000 in
theorem zl_9_111 : zPl 9 (111, 175) := ⟨_, _, rfl, rfl, Or.inl (List.mem_of_getElem? (i := 1243) (by decide +kernel))⟩
set_option maxRecDepth 20000 in
theorem zl_9_115 : zPl 9 (115, 176) := ⟨_, _, rfl, rfl, Or.inl (List.mem_of_getElem? (i := 1247) (by decide +kernel))⟩
set_option maxRecDepth 20000 in
theorem zl_9_119 : zPl 9 (119, 177) := ⟨_, _, rfl, rfl, Or.inl (List.mem_of_getElem? (i := 1252) (by decide +kernel))⟩
set_option maxRecDepth 20000 in
theorem zl_9_123 : zPl 9 (123, 178) := ⟨_, _, rfl, rfl, Or.inl (List.mem_of_getElem? (i := 1256) (by decide +kernel))⟩
set_option maxRecDepth 20000 in
theorem zl_9_127 : zPl 9 (127, 180) := ⟨_, _, rfl, rfl, Or.inl (List.mem_of_getElem? (i := 1261) (by decide +kernel))⟩
set_option maxRecDepth 20000 in
theorem zl_9_131 : zPl 9 (131, 182) := ⟨_, _, rfl, rfl, Or.inl (List.mem_of_getElem? (i := 1269) (by decide +kernel))⟩
set_option maxRecDepth 20000 in
theorem zl_9_135 : zPl 9 (135, 183) := ⟨_, _, rfl, rfl, Or.inl (List.mem_of_getElem? (i := 1277) (by decide +kernel))⟩
set_option maxRecDepth 20000 in
theorem zl_9_139 : zPl 9 (139, 184) := ⟨_, _, rfl, rfl, Or.inl (List.mem_of_getElem? (i := 1281) (by decide +kernel))⟩
set_option maxRecDepth 20000 in
theorem zl_9_144 : zPl 9 (144, 185) := ⟨_, _, rfl, rfl, Or.inl (List.mem_of_getElem? (i := 1285) (by decide +kernel))⟩
set_option maxRecDepth 20000 in
theorem zl_9_148 : zPl 9 (148, 187) := ⟨_, _, rfl, rfl, Or.inl (List.mem_of_getElem? (i := 1297) (by decide +kernel))⟩
set_option maxRecDepth 20000 in
theorem zl_9_152 : zPl 9 (152, 188) := ⟨_, _, rfl, rfl, Or.inl (List.mem_of_getElem? (i := 1301) (by decide +kernel))⟩
set_option maxRecDepth 20000 in
theorem zl_9_156 : zPl 9 (156, 190) := ⟨_, _, rfl, rfl, Or.inl (List.mem_of_getElem? (i := 1305) (by decide +kernel))⟩
set_option maxRecDepth 20000 in
theorem zl_9_160 : zPl 9 (160, 192) := ⟨_, _, rfl, rfl, Or.inl (List.mem_of_getElem? (i := 1309) (by decide +kernel))⟩
set_option maxRecDepth 20000 in
theorem zl_9_164 : zPl 9 (164, 195) := ⟨_, _, rfl, rfl, Or.inl (List.mem_of_getElem? (i := 1317) (by decide +kernel))⟩
set_option maxRecDepth 20000 in
theorem zl_9_168 : zPl 9 (168, 206) := ⟨_, _, rfl, rfl, Or.inl (List.mem_of_getElem? (i := 1328) (by decide +kernel))⟩
set_option maxRecDepth 20000 in
theorem zl_9_172 : zPl 9 (172, 207) := ⟨_, _, rfl, rfl, Or.inl (List.mem_of_getElem? (i := 1372) (by decide +kernel))⟩
set_option maxRecDepth 20000 in
theorem zl_9_176 : zPl 9 (176, 208) := ⟨_, _, rfl, rfl, Or.inl (List.mem_of_getElem? (i := 1376) (by decide +kernel))⟩
set_option maxRecDepth 20000 in
theorem zl_9_180 : zPl 9 (180, 211) := ⟨_, _, rfl, rfl, Or.inl (List.mem_of_getElem? (i := 1380) (by decide +kernel))⟩
set_option maxRecDepth 20000 in
theorem zl_9_184 : zPl 9 (184, 212) := ⟨_, _, rfl, rfl, Or.inl (List.mem_of_getElem? (i := 1392) (by decide +kernel))⟩
set_option maxRecDepth 20000 in
theorem zl_10_335 : zPl 10 (335, 216) := ⟨_, _, rfl, rfl, Or.inl (List.mem_of_getElem? (i := 337) (by decide +kernel))⟩
set_option maxRecDepth 20000 in
theorem zl_10_492 : zPl 10 (492, 217) := ⟨_, _, rfl, rfl, Or.inl (List.mem_of_getElem? (i := 347) (by decide +kernel))⟩
set_option maxRecDepth 20000 in
theorem zl_10_495 : zPl 10 (495, 219) := ⟨_, _, rfl, rfl, Or.inl (List.mem_of_getElem? (i := 351) (by decide +kernel))⟩
set_option maxRecDepth 20000 in
theorem zl_10_1059 : zPl 10 (1059, 220) := ⟨_, _, rfl, rfl, Or.inl (List.mem_of_getElem? (i := 359) (by decide +kernel))⟩
set_option maxRecDepth 20000 in
theorem zl_11_9 : zPl 11 (9, 218) := ⟨_, _, rfl, rfl, Or.inl (List.mem_of_getElem? (i := 354) (by decide +kernel))⟩
set_option maxRecDepth 20000 in
theorem zl_all : zall zPl 0 zmlT := ⟨List.forall_mem_cons.mpr ⟨zl_0_3, List.forall_mem_cons.mpr ⟨zl_0_27, List.forall_mem_cons.mpr ⟨zl_0_32, List.forall_mem_cons.mpr ⟨zl_0_38, List.forall_mem_cons.mpr ⟨zl_0_57, List.forall_mem_cons.mpr ⟨zl_0_53, List.forall_mem_cons.mpr ⟨zl_0_80, List.forall_mem_cons.mpr ⟨zl_0_103, List.forall_mem_cons.mpr ⟨zl_0_74, List.forall_mem_cons.mpr ⟨zl_0_61, List.forall_mem_cons.mpr ⟨zl_0_71, List.forall_mem_cons.mpr ⟨zl_0_84, List.forall_mem_cons.mpr ⟨zl_0_88, List.forall_mem_cons.mpr ⟨zl_0_92, List.forall_mem_cons.mpr ⟨zl_0_96, List.forall_mem_cons.mpr ⟨zl_0_99, List.forall_mem_cons.mpr ⟨zl_0_121, List.forall_mem_cons.mpr ⟨zl_0_129, List.forall_mem_cons.mpr ⟨zl_0_112, List.forall_mem_cons.mpr ⟨zl_0_125, List.forall_mem_nil _⟩⟩⟩⟩⟩⟩⟩⟩⟩⟩⟩⟩⟩⟩⟩⟩⟩⟩⟩⟩, ⟨List.forall_mem_cons.mpr ⟨zl_1_3, List.forall_mem_nil _⟩, ⟨List.forall_mem_cons.mpr ⟨zl_2_3, List.forall_mem_nil _⟩, ⟨List.forall_mem_cons.mpr ⟨zl_3_3, List.forall_mem_cons.mpr ⟨zl_3_23, List.forall_mem_cons.mpr ⟨zl_3_34, List.forall_mem_cons.mpr ⟨zl_3_157, List.forall_mem_cons.mpr ⟨zl_3_40, List.forall_mem_cons.mpr ⟨zl_3_46, List.forall_mem_cons.mpr ⟨zl_3_56, List.forall_mem_cons.mpr ⟨zl_3_149, List.forall_mem_cons.mpr ⟨zl_3_153, List.forall_mem_cons.mpr ⟨zl_3_50, List.forall_mem_cons.mpr ⟨zl_3_72, List.forall_mem_cons.mpr ⟨zl_3_91, List.forall_mem_cons.mpr ⟨zl_3_100, List.forall_mem_cons.mpr ⟨zl_3_107, List.forall_mem_cons.mpr ⟨zl_3_117, List.forall_mem_cons.mpr ⟨zl_3_121, List.forall_mem_cons.mpr ⟨zl_3_60, List.forall_mem_cons.mpr ⟨zl_3_69, List.forall_mem_cons.mpr ⟨zl_3_142, List.forall_mem_cons.mpr ⟨zl_3_43, List.forall_mem_nil _⟩⟩⟩⟩⟩⟩⟩⟩⟩⟩⟩⟩⟩⟩⟩⟩⟩⟩⟩⟩, ⟨List.forall_mem_cons.mpr ⟨zl_4_3, List.forall_mem_cons.mpr ⟨zl_4_36, List.forall_mem_cons.mpr ⟨zl_4_49, List.forall_mem_cons.mpr ⟨zl_4_40, List.forall_mem_cons.mpr ⟨zl_4_43, List.forall_mem_cons.mpr ⟨zl_4_53, List.forall_mem_cons.mpr ⟨zl_4_46, List.forall_mem_nil _⟩⟩⟩⟩⟩⟩⟩, ⟨List.forall_mem_cons.mpr ⟨zl_5_3, List.forall_mem_cons.mpr ⟨zl_5_11, List.forall_mem_cons.mpr ⟨zl_5_24, List.forall_mem_cons.mpr ⟨zl_5_47, List.forall_mem_cons.mpr ⟨zl_5_52, List.forall_mem_cons.mpr ⟨zl_5_60, List.forall_mem_cons.mpr ⟨zl_5_67, List.forall_mem_cons.mpr ⟨zl_5_77, List.forall_mem_cons.mpr ⟨zl_5_90, List.forall_mem_cons.mpr ⟨zl_5_93, List.forall_mem_cons.mpr ⟨zl_5_99, List.forall_mem_cons.mpr ⟨zl_5_109, List.forall_mem_cons.mpr ⟨zl_5_113, List.forall_mem_cons.mpr ⟨zl_5_116, List.forall_mem_cons.mpr ⟨zl_5_119, List.forall_mem_cons.mpr ⟨zl_5_123, List.forall_mem_cons.mpr ⟨zl_5_147, List.forall_mem_cons.mpr ⟨zl_5_157, List.forall_mem_cons.mpr ⟨zl_5_162, List.forall_mem_cons.mpr ⟨zl_5_171, List.forall_mem_cons.mpr ⟨zl_5_175, List.forall_mem_cons.mpr ⟨zl_5_178, List.forall_mem_cons.mpr ⟨zl_5_182, List.forall_mem_cons.mpr ⟨zl_5_186, List.forall_mem_cons.mpr ⟨zl_5_189, List.forall_mem_cons.mpr ⟨zl_5_194, List.forall_mem_cons.mpr ⟨zl_5_197, List.forall_mem_cons.mpr ⟨zl_5_200, List.forall_mem_cons.mpr ⟨zl_5_203, List.forall_mem_cons.mpr ⟨zl_5_207, List.forall_mem_cons.mpr ⟨zl_5_210, List.forall_mem_cons.mpr ⟨zl_5_214, List.forall_mem_cons.mpr ⟨zl_5_217, List.forall_mem_cons.mpr ⟨zl_5_221, List.forall_mem_cons.mpr ⟨zl_5_225, List.forall_mem_cons.mpr ⟨zl_5_235, List.forall_mem_cons.mpr ⟨zl_5_238, List.forall_mem_cons.mpr ⟨zl_5_241, List.forall_mem_cons.mpr ⟨zl_5_244, List.forall_mem_cons.mpr ⟨zl_5_248, List.forall_mem_cons.mpr ⟨zl_5_251, List.forall_mem_cons.mpr ⟨zl_5_254, List.forall_mem_cons.mpr ⟨zl_5_257, List.forall_mem_cons.mpr ⟨zl_5_260, List.forall_mem_cons.mpr ⟨zl_5_263, List.forall_mem_cons.mpr ⟨zl_5_267, List.forall_mem_cons.mpr ⟨zl_5_276, List.forall_mem_nil _⟩⟩⟩⟩⟩⟩⟩⟩⟩⟩⟩⟩⟩⟩⟩⟩⟩⟩⟩⟩⟩⟩⟩⟩⟩⟩⟩⟩⟩⟩⟩⟩⟩⟩⟩⟩⟩⟩⟩⟩⟩⟩⟩⟩⟩⟩⟩, ⟨List.forall_mem_cons.mpr ⟨zl_6_1, List.forall_mem_cons.mpr ⟨zl_6_99, List.forall_mem_cons.mpr ⟨zl_6_170, List.forall_mem_cons.mpr ⟨zl_6_117, List.forall_mem_cons.mpr ⟨zl_6_121, List.forall_mem_cons.mpr ⟨zl_6_125, List.forall_mem_cons.mpr ⟨zl_6_222, List.forall_mem_cons.mpr ⟨zl_6_203, List.forall_mem_cons.mpr ⟨zl_6_146, List.forall_mem_cons.mpr ⟨zl_6_207, List.forall_mem_cons.mpr ⟨zl_6_179, List.forall_mem_cons.mpr ⟨zl_6_185, List.forall_mem_cons.mpr ⟨zl_6_173, List.forall_mem_cons.mpr ⟨zl_6_191, List.forall_mem_cons.mpr ⟨zl_6_211, List.forall_mem_cons.mpr ⟨zl_6_214, List.forall_mem_cons.mpr ⟨zl_6_194, List.forall_mem_cons.mpr ⟨zl_6_219, List.forall_mem_cons.mpr ⟨zl_6_225, List.forall_mem_cons.mpr ⟨zl_6_234, List.forall_mem_cons.mpr ⟨zl_6_237, List.forall_mem_cons.mpr ⟨zl_6_239, List.forall_mem_cons.mpr ⟨zl_6_242, List.forall_mem_cons.mpr ⟨zl_6_246, List.forall_mem_cons.mpr ⟨zl_6_252, List.forall_mem_cons.mpr ⟨zl_6_255, List.forall_mem_cons.mpr ⟨zl_6_258, List.forall_mem_cons.mpr ⟨zl_6_249, List.forall_mem_cons.mpr ⟨zl_6_262, List.forall_mem_cons.mpr ⟨zl_6_289, List.forall_mem_cons.mpr ⟨zl_6_280, List.forall_mem_cons.mpr ⟨zl_6_271, List.forall_mem_cons.mpr ⟨zl_6_283, List.forall_mem_cons.mpr ⟨zl_6_286, List.forall_mem_cons.mpr ⟨zl_6_274, List.forall_mem_cons.mpr ⟨zl_6_277, List.forall_mem_cons.mpr ⟨zl_6_298, List.forall_mem_cons.mpr ⟨zl_6_295, List.forall_mem_cons.mpr ⟨zl_6_292, List.forall_mem_cons.mpr ⟨zl_6_304, List.forall_mem_cons.mpr ⟨zl_6_301, List.forall_mem_cons.mpr ⟨zl_6_307, List.forall_mem_cons.mpr ⟨zl_6_310, List.forall_mem_cons.mpr ⟨zl_6_313, List.forall_mem_cons.mpr ⟨zl_6_320, List.forall_mem_cons.mpr ⟨zl_6_323, List.forall_mem_cons.mpr ⟨zl_6_326, List.forall_mem_cons.mpr ⟨zl_6_329, List.forall_mem_cons.mpr ⟨zl_6_334, List.forall_mem_cons.mpr ⟨zl_6_337, List.forall_mem_cons.mpr ⟨zl_6_340, List.forall_mem_cons.mpr ⟨zl_6_361, List.forall_mem_cons.mpr ⟨zl_6_358, List.forall_mem_cons.mpr ⟨zl_6_346, List.forall_mem_cons.mpr ⟨zl_6_352, List.forall_mem_cons.mpr ⟨zl_6_376, List.forall_mem_cons.mpr ⟨zl_6_364, List.forall_mem_cons.mpr ⟨zl_6_382, List.forall_mem_cons.mpr ⟨zl_6_373, List.forall_mem_cons.mpr ⟨zl_6_385, List.forall_mem_cons.mpr ⟨zl_6_379, List.forall_mem_cons.mpr ⟨zl_6_395, List.forall_mem_cons.mpr ⟨zl_6_391, List.forall_mem_nil _⟩⟩⟩⟩⟩⟩⟩⟩⟩⟩⟩⟩⟩⟩⟩⟩⟩⟩⟩⟩⟩⟩⟩⟩⟩⟩⟩⟩⟩⟩⟩⟩⟩⟩⟩⟩⟩⟩⟩⟩⟩⟩⟩⟩⟩⟩⟩⟩⟩⟩⟩⟩⟩⟩⟩⟩⟩⟩⟩⟩⟩⟩⟩, ⟨List.forall_mem_nil _, ⟨List.forall_mem_nil _, ⟨List.forall_mem_cons.mpr ⟨zl_9_9, List.forall_mem_cons.mpr ⟨zl_9_15, List.forall_mem_cons.mpr ⟨zl_9_20, List.forall_mem_cons.mpr ⟨zl_9_25, List.forall_mem_cons.mpr ⟨zl_9_30, List.forall_mem_cons.mpr ⟨zl_9_35, List.forall_mem_cons.mpr ⟨zl_9_39, List.forall_mem_cons.mpr ⟨zl_9_43, List.forall_mem_cons.mpr ⟨zl_9_47, List.forall_mem_cons.mpr ⟨zl_9_52, List.forall_mem_cons.mpr ⟨zl_9_56, List.forall_mem_cons.mpr ⟨zl_9_60, List.forall_mem_cons.mpr ⟨zl_9_64, List.forall_mem_cons.mpr ⟨zl_9_68, List.forall_mem_cons.mpr ⟨zl_9_72, List.forall_mem_cons.mpr ⟨zl_9_76, List.forall_mem_cons.mpr ⟨zl_9_80, List.forall_mem_cons.mpr ⟨zl_9_84, List.forall_mem_cons.mpr ⟨zl_9_88, List.forall_mem_cons.mpr ⟨zl_9_92, List.forall_mem_cons.mpr ⟨zl_9_96, List.forall_mem_cons.mpr ⟨zl_9_100, List.forall_mem_cons.mpr ⟨zl_9_104, List.forall_mem_cons.mpr ⟨zl_9_108, List.forall_mem_cons.mpr ⟨zl_9_112, List.forall_mem_cons.mpr ⟨zl_9_116, List.forall_mem_cons.mpr ⟨zl_9_120, List.forall_mem_cons.mpr ⟨zl_9_124, List.forall_mem_cons.mpr ⟨zl_9_128, List.forall_mem_cons.mpr ⟨zl_9_132, List.forall_mem_cons.mpr ⟨zl_9_136, List.forall_mem_cons.mpr ⟨zl_9_140, List.forall_mem_cons.mpr ⟨zl_9_145, List.forall_mem_cons.mpr ⟨zl_9_149, List.forall_mem_cons.mpr ⟨zl_9_153, List.forall_mem_cons.mpr ⟨zl_9_157, List.forall_mem_cons.mpr ⟨zl_9_161, List.forall_mem_cons.mpr ⟨zl_9_165, List.forall_mem_cons.mpr ⟨zl_9_169, List.forall_mem_cons.mpr ⟨zl_9_173, List.forall_mem_cons.mpr ⟨zl_9_177, List.forall_mem_cons.mpr ⟨zl_9_181, List.forall_mem_cons.mpr ⟨zl_9_12, List.forall_mem_cons.mpr ⟨zl_9_19, List.forall_mem_cons.mpr ⟨zl_9_24, List.forall_mem_cons.mpr ⟨zl_9_29, List.forall_mem_cons.mpr ⟨zl_9_34, List.forall_mem_cons.mpr ⟨zl_9_38, List.forall_mem_cons.mpr ⟨zl_9_42, List.forall_mem_cons.mpr ⟨zl_9_46, List.forall_mem_cons.mpr ⟨zl_9_51, List.forall_mem_cons.mpr ⟨zl_9_55, List.forall_mem_cons.mpr ⟨zl_9_59, List.forall_mem_cons.mpr ⟨zl_9_63, List.forall_mem_cons.mpr ⟨zl_9_67, List.forall_mem_cons.mpr ⟨zl_9_71, List.forall_mem_cons.mpr ⟨zl_9_75, List.forall_mem_cons.mpr ⟨zl_9_79, List.forall_mem_cons.mpr ⟨zl_9_83, List.forall_mem_cons.mpr ⟨zl_9_87, List.forall_mem_cons.mpr ⟨zl_9_91, List.forall_mem_cons.mpr ⟨zl_9_95, List.forall_mem_cons.mpr ⟨zl_9_99, List.forall_mem_cons.mpr ⟨zl_9_103, List.forall_mem_cons.mpr ⟨zl_9_107, List.forall_mem_cons.mpr ⟨zl_9_111, List.forall_mem_cons.mpr ⟨zl_9_115, List.forall_mem_cons.mpr ⟨zl_9_119, List.forall_mem_cons.mpr ⟨zl_9_123, List.forall_mem_cons.mpr ⟨zl_9_127, List.forall_mem_cons.mpr ⟨zl_9_131, List.forall_mem_cons.mpr ⟨zl_9_135, List.forall_mem_cons.mpr ⟨zl_9_139, List.forall_mem_cons.mpr ⟨zl_9_144, List.forall_mem_cons.mpr ⟨zl_9_148, List.forall_mem_cons.mpr ⟨zl_9_152, List.forall_mem_cons.mpr ⟨zl_9_156, List.forall_mem_cons.mpr ⟨zl_9_160, List.forall_mem_cons.mpr ⟨zl_9_164, List.forall_mem_cons.mpr ⟨zl_9_168, List.forall_mem_cons.mpr ⟨zl_9_172, List.forall_mem_cons.mpr ⟨zl_9_176, List.forall_mem_cons.mpr ⟨zl_9_180, List.forall_mem_cons.mpr ⟨zl_9_184, List.forall_mem_nil _⟩⟩⟩⟩⟩⟩⟩⟩⟩⟩⟩⟩⟩⟩⟩⟩⟩⟩⟩⟩⟩⟩⟩⟩⟩⟩⟩⟩⟩⟩⟩⟩⟩⟩⟩⟩⟩⟩⟩⟩⟩⟩⟩⟩⟩⟩⟩⟩⟩⟩⟩⟩⟩⟩⟩⟩⟩⟩⟩⟩⟩⟩⟩⟩⟩⟩⟩⟩⟩⟩⟩⟩⟩⟩⟩⟩⟩⟩⟩⟩⟩⟩⟩⟩, ⟨List.forall_mem_cons.mpr ⟨zl_10_335, List.forall_mem_cons.mpr ⟨zl_10_492, List.forall_mem_cons.mpr ⟨zl_10_495, List.forall_mem_cons.mpr ⟨zl_10_1059, List.forall_mem_nil _⟩⟩⟩⟩, ⟨List.forall_mem_cons.mpr ⟨zl_11_9, List.forall_mem_nil _⟩, ⟨List.forall_mem_nil _, trivial⟩⟩⟩⟩⟩⟩⟩⟩⟩⟩⟩⟩⟩
def zPi (c : Nat) (e : Nat × Int32) : Prop := ∃ own, zat zcn c = some own ∧ Cond.constant own e.1 e.2 ∈ lw_tbl
set_option maxRecDepth 20000 in
theorem zi_5_161 : zPi 5 (161, 1073741823) := ⟨_, rfl, List.mem_of_getElem? (i := 530) (by decide +kernel)⟩
set_option maxRecDepth 20000 in
theorem zi_5_213 : zPi 5 (213, 1103515245) := ⟨_, rfl, List.mem_of_getElem? (i := 665) (by decide +kernel)⟩
set_option maxRecDepth 20000 in
theorem zi_6_261 : zPi 6 (261, 1073741823) := ⟨_, rfl, List.mem_of_getElem? (i := 1142) (by decide +kernel)⟩
set_option maxRecDepth 20000 in
theorem zi_6_316 : zPi 6 (316, 1103515245) := ⟨_, rfl, List.mem_of_getElem? (i := 1260) (by decide +kernel)⟩
set_option maxRecDepth 20000 in
theorem zi_8_265 : zPi 8 (265, 1431655765) := ⟨_, rfl, List.mem_of_getElem? (i := 534) (by decide +kernel)⟩
set_option maxRecDepth 20000 in
theorem zi_8_266 : zPi 8 (266, 858993459) := ⟨_, rfl, List.mem_of_getElem? (i := 535) (by decide +kernel)⟩
set_option maxRecDepth 20000 in
theorem zi_8_267 : zPi 8 (267, 252645135) := ⟨_, rfl, List.mem_of_getElem? (i := 536) (by decide +kernel)⟩
set_option maxRecDepth 20000 in
theorem zi_all : zall zPi 0 zilT := ⟨List.forall_mem_nil _, ⟨List.forall_mem_nil _, ⟨List.forall_mem_nil _, ⟨List.forall_mem_nil _, ⟨List.forall_mem_nil _, ⟨List.forall_mem_cons.mpr ⟨zi_5_161, List.forall_mem_cons.mpr ⟨zi_5_213, List.forall_mem_nil _⟩⟩, ⟨List.forall_mem_cons.mpr ⟨zi_6_261, List.forall_mem_cons.mpr ⟨zi_6_316, List.forall_mem_nil _⟩⟩, ⟨List.forall_mem_nil _, ⟨List.forall_mem_cons.mpr ⟨zi_8_265, List.forall_mem_cons.mpr ⟨zi_8_266, List.forall_mem_cons.mpr ⟨zi_8_267, List.forall_mem_nil _⟩⟩⟩, ⟨List.forall_mem_nil _, ⟨List.forall_mem_nil _, ⟨List.forall_mem_nil _, ⟨List.forall_mem_nil _, trivial⟩⟩⟩⟩⟩⟩⟩⟩⟩⟩⟩⟩⟩
def zPj (c : Nat) (e : Nat × Int64) : Prop := ∃ own, zat zcn c = some own ∧ Cond.constantLong own e.1 e.2 ∈ lw_tbl
set_option maxRecDepth 20000 in
theorem zj_6_109 : zPj 6 (109, 255) := ⟨_, rfl, List.mem_of_getElem? (i := 985) (by decide +kernel)⟩
set_option maxRecDepth 20000 in
theorem zj_6_138 : zPj 6 (138, 27) := ⟨_, rfl, List.mem_of_getElem? (i := 1004) (by decide +kernel)⟩
set_option maxRecDepth 20000 in
theorem zj_6_140 : zPj 6 (140, 96) := ⟨_, rfl, List.mem_of_getElem? (i := 1005) (by decide +kernel)⟩
set_option maxRecDepth 20000 in
theorem zj_6_142 : zPj 6 (142, -1) := ⟨_, rfl, List.mem_of_getElem? (i := 1006) (by decide +kernel)⟩
set_option maxRecDepth 20000 in
theorem zj_6_144 : zPj 6 (144, 338358942) := ⟨_, rfl, List.mem_of_getElem? (i := 1015) (by decide +kernel)⟩
set_option maxRecDepth 20000 in
theorem zj_6_150 : zPj 6 (150, 237470) := ⟨_, rfl, List.mem_of_getElem? (i := 1020) (by decide +kernel)⟩
set_option maxRecDepth 20000 in
theorem zj_6_152 : zPj 6 (152, 115575084) := ⟨_, rfl, List.mem_of_getElem? (i := 1021) (by decide +kernel)⟩
set_option maxRecDepth 20000 in
theorem zj_6_154 : zPj 6 (154, 330748182) := ⟨_, rfl, List.mem_of_getElem? (i := 1022) (by decide +kernel)⟩
set_option maxRecDepth 20000 in
theorem zj_6_156 : zPj 6 (156, 283357330) := ⟨_, rfl, List.mem_of_getElem? (i := 1023) (by decide +kernel)⟩
set_option maxRecDepth 20000 in
theorem zj_6_158 : zPj 6 (158, 55213) := ⟨_, rfl, List.mem_of_getElem? (i := 1024) (by decide +kernel)⟩
set_option maxRecDepth 20000 in
theorem zj_6_183 : zPj 6 (183, 464141) := ⟨_, rfl, List.mem_of_getElem? (i := 1033) (by decide +kernel)⟩
set_option maxRecDepth 20000 in
theorem zj_6_189 : zPj 6 (189, 6897) := ⟨_, rfl, List.mem_of_getElem? (i := 1038) (by decide +kernel)⟩
set_option maxRecDepth 20000 in
theorem zj_6_160 : zPj 6 (160, 3488) := ⟨_, rfl, List.mem_of_getElem? (i := 1051) (by decide +kernel)⟩
set_option maxRecDepth 20000 in
theorem zj_6_162 : zPj 6 (162, 267347) := ⟨_, rfl, List.mem_of_getElem? (i := 1052) (by decide +kernel)⟩
set_option maxRecDepth 20000 in
theorem zj_6_164 : zPj 6 (164, 6277941529) := ⟨_, rfl, List.mem_of_getElem? (i := 1053) (by decide +kernel)⟩
set_option maxRecDepth 20000 in
theorem zj_6_217 : zPj 6 (217, 80006) := ⟨_, rfl, List.mem_of_getElem? (i := 1061) (by decide +kernel)⟩
set_option maxRecDepth 20000 in
theorem zj_6_201 : zPj 6 (201, 316163) := ⟨_, rfl, List.mem_of_getElem? (i := 1066) (by decide +kernel)⟩
set_option maxRecDepth 20000 in
theorem zj_6_332 : zPj 6 (332, 9) := ⟨_, rfl, List.mem_of_getElem? (i := 1296) (by decide +kernel)⟩
set_option maxRecDepth 20000 in
theorem zj_9_13 : zPj 9 (13, 4294967295) := ⟨_, rfl, List.mem_of_getElem? (i := 1396) (by decide +kernel)⟩
set_option maxRecDepth 20000 in
theorem zj_all : zall zPj 0 zllT := ⟨List.forall_mem_nil _, ⟨List.forall_mem_nil _, ⟨List.forall_mem_nil _, ⟨List.forall_mem_nil _, ⟨List.forall_mem_nil _, ⟨List.forall_mem_nil _, ⟨List.forall_mem_cons.mpr ⟨zj_6_109, List.forall_mem_cons.mpr ⟨zj_6_138, List.forall_mem_cons.mpr ⟨zj_6_140, List.forall_mem_cons.mpr ⟨zj_6_142, List.forall_mem_cons.mpr ⟨zj_6_144, List.forall_mem_cons.mpr ⟨zj_6_150, List.forall_mem_cons.mpr ⟨zj_6_152, List.forall_mem_cons.mpr ⟨zj_6_154, List.forall_mem_cons.mpr ⟨zj_6_156, List.forall_mem_cons.mpr ⟨zj_6_158, List.forall_mem_cons.mpr ⟨zj_6_183, List.forall_mem_cons.mpr ⟨zj_6_189, List.forall_mem_cons.mpr ⟨zj_6_160, List.forall_mem_cons.mpr ⟨zj_6_162, List.forall_mem_cons.mpr ⟨zj_6_164, List.forall_mem_cons.mpr ⟨zj_6_217, List.forall_mem_cons.mpr ⟨zj_6_201, List.forall_mem_cons.mpr ⟨zj_6_332, List.forall_mem_nil _⟩⟩⟩⟩⟩⟩⟩⟩⟩⟩⟩⟩⟩⟩⟩⟩⟩⟩, ⟨List.forall_mem_nil _, ⟨List.forall_mem_nil _, ⟨List.forall_mem_cons.mpr ⟨zj_9_13, List.forall_mem_nil _⟩, ⟨List.forall_mem_nil _, ⟨List.forall_mem_nil _, ⟨List.forall_mem_nil _, trivial⟩⟩⟩⟩⟩⟩⟩⟩⟩⟩⟩⟩⟩
def zstx : List (Nat × String) := [(76, "worker"), (78, "late"), (80, "halver"), (82, "waiter"), (84, "steady"), (86, "busy"), (98, "work"), (111, "ill"), (54, "due"), (63, "most"), (65, "penalty"), (67, "date"), (140, "part")]
def zPt (c : Nat) (e : Nat × Nat) : Prop := c = 3 ∧ ∃ tx, zat zstx e.2 = some (e.1, tx) ∧ Cond.stringRef "LastDays$Tape" e.1 tx ∈ lw_tbl
set_option maxRecDepth 20000 in
theorem zt_3_76 : zPt 3 (76, 0) := ⟨rfl, _, rfl, List.mem_of_getElem? (i := 328) (by decide +kernel)⟩
set_option maxRecDepth 20000 in
theorem zt_3_78 : zPt 3 (78, 1) := ⟨rfl, _, rfl, List.mem_of_getElem? (i := 381) (by decide +kernel)⟩
set_option maxRecDepth 20000 in
theorem zt_3_80 : zPt 3 (80, 2) := ⟨rfl, _, rfl, List.mem_of_getElem? (i := 382) (by decide +kernel)⟩
set_option maxRecDepth 20000 in
theorem zt_3_82 : zPt 3 (82, 3) := ⟨rfl, _, rfl, List.mem_of_getElem? (i := 383) (by decide +kernel)⟩
set_option maxRecDepth 20000 in
theorem zt_3_84 : zPt 3 (84, 4) := ⟨rfl, _, rfl, List.mem_of_getElem? (i := 384) (by decide +kernel)⟩
set_option maxRecDepth 20000 in
theorem zt_3_86 : zPt 3 (86, 5) := ⟨rfl, _, rfl, List.mem_of_getElem? (i := 385) (by decide +kernel)⟩
set_option maxRecDepth 20000 in
theorem zt_3_98 : zPt 3 (98, 6) := ⟨rfl, _, rfl, List.mem_of_getElem? (i := 398) (by decide +kernel)⟩
set_option maxRecDepth 20000 in
theorem zt_3_111 : zPt 3 (111, 7) := ⟨rfl, _, rfl, List.mem_of_getElem? (i := 411) (by decide +kernel)⟩
set_option maxRecDepth 20000 in
theorem zt_3_54 : zPt 3 (54, 8) := ⟨rfl, _, rfl, List.mem_of_getElem? (i := 420) (by decide +kernel)⟩
set_option maxRecDepth 20000 in
theorem zt_3_63 : zPt 3 (63, 9) := ⟨rfl, _, rfl, List.mem_of_getElem? (i := 429) (by decide +kernel)⟩
set_option maxRecDepth 20000 in
theorem zt_3_65 : zPt 3 (65, 10) := ⟨rfl, _, rfl, List.mem_of_getElem? (i := 430) (by decide +kernel)⟩
set_option maxRecDepth 20000 in
theorem zt_3_67 : zPt 3 (67, 11) := ⟨rfl, _, rfl, List.mem_of_getElem? (i := 431) (by decide +kernel)⟩
set_option maxRecDepth 20000 in
theorem zt_3_140 : zPt 3 (140, 12) := ⟨rfl, _, rfl, List.mem_of_getElem? (i := 436) (by decide +kernel)⟩
set_option maxRecDepth 20000 in
theorem zt_all : zall zPt 0 ztlT := ⟨List.forall_mem_nil _, ⟨List.forall_mem_nil _, ⟨List.forall_mem_nil _, ⟨List.forall_mem_cons.mpr ⟨zt_3_76, List.forall_mem_cons.mpr ⟨zt_3_78, List.forall_mem_cons.mpr ⟨zt_3_80, List.forall_mem_cons.mpr ⟨zt_3_82, List.forall_mem_cons.mpr ⟨zt_3_84, List.forall_mem_cons.mpr ⟨zt_3_86, List.forall_mem_cons.mpr ⟨zt_3_98, List.forall_mem_cons.mpr ⟨zt_3_111, List.forall_mem_cons.mpr ⟨zt_3_54, List.forall_mem_cons.mpr ⟨zt_3_63, List.forall_mem_cons.mpr ⟨zt_3_65, List.forall_mem_cons.mpr ⟨zt_3_67, List.forall_mem_cons.mpr ⟨zt_3_140, List.forall_mem_nil _⟩⟩⟩⟩⟩⟩⟩⟩⟩⟩⟩⟩⟩, ⟨List.forall_mem_nil _, ⟨List.forall_mem_nil _, ⟨List.forall_mem_nil _, ⟨List.forall_mem_nil _, ⟨List.forall_mem_nil _, ⟨List.forall_mem_nil _, ⟨List.forall_mem_nil _, ⟨List.forall_mem_nil _, ⟨List.forall_mem_nil _, trivial⟩⟩⟩⟩⟩⟩⟩⟩⟩⟩⟩⟩⟩
/-- a value's sort and the type of the field -/
def zsty : Nat → FieldType → Bool
  | 0, .int => true
  | 1, .long => true
  | 2, .boolean => true
  | 3, .object _ => true
  | 3, .array _ => true
  | _, _ => false
def zCok (ci : Nat) (C : String) (T : u_T) (N : Nat) : Prop := (∀ w ∈ u_ws C T N, w ∈ lw_tbl) ∧ Cond.instantiable C N ∈ lw_tbl ∧ Cond.initialized C ∈ lw_tbl ∧ zat zcn ci = some C ∧ (∀ a, a < N → ∀ b, b < N → a ≠ b → (T a).2.1 ≠ (T b).2.1) ∧
  ∃ ty : Nat → FieldType, (∀ k, k < N → parseFieldDescriptor (T k).2.2.1 = some (ty k)) ∧ ∃ fs q, zat zdfT ci = some fs ∧ fs.length = N ∧ (∀ j, j < N → defaultValue (ty j) = vp_V fs j) ∧ zat zfsT ci = some q ∧ ∀ k, k < N → ∃ z, zat q k = some z ∧ (T k).2.2.2 = z.2 ∧ (T k).1 = C ∧ zsty z.1 (ty k) = true
theorem zfs_of {T : u_T} {C : String} {ty : Nat → FieldType} {q : List (Nat × Bool)} {N : Nat} (h : (List.range N).all (fun k => match zat q k with | some z => decide ((T k).2.2.2 = z.2) && decide ((T k).1 = C) && zsty z.1 (ty k) | none => false) = true) : ∀ k, k < N → ∃ z, zat q k = some z ∧ (T k).2.2.2 = z.2 ∧ (T k).1 = C ∧ zsty z.1 (ty k) = true := by
  intro k hk
  have h1 := List.all_eq_true.mp h k (List.mem_range.mpr hk)
  cases hz : zat q k with
  | none => rw [hz] at h1; cases h1
  | some z =>
    rw [hz] at h1
    simp only [Bool.and_eq_true, decide_eq_true_eq] at h1
    exact ⟨z, rfl, h1.1.1, h1.1.2, h1.2⟩
set_option maxRecDepth 20000 in
theorem zcls_0 : zCok 0 RX0 TX0 8 := ⟨zin_of (ps := [183, 185, 187, 189, 191, 193, 195, 197]) (by decide +kernel), List.mem_of_getElem? (i := 102) (by decide +kernel), List.mem_of_getElem? (i := 80) (by decide +kernel), rfl, nmX0, tyX0, tyX0_ok, _, _, rfl, rfl, by decide +kernel, rfl, zfs_of (by decide +kernel)⟩
set_option maxRecDepth 20000 in
theorem zcls_1 : zCok 1 RX1 TX1 7 := ⟨zin_of (ps := [137, 139, 141, 143, 145, 147, 149]) (by decide +kernel), List.mem_of_getElem? (i := 109) (by decide +kernel), List.mem_of_getElem? (i := 81) (by decide +kernel), rfl, nmX1, tyX1, tyX1_ok, _, _, rfl, rfl, by decide +kernel, rfl, zfs_of (by decide +kernel)⟩
set_option maxRecDepth 20000 in
theorem zcls_2 : zCok 2 RX2 TX2 2 := ⟨zin_of (ps := [712, 714]) (by decide +kernel), List.mem_of_getElem? (i := 703) (by decide +kernel), List.mem_of_getElem? (i := 92) (by decide +kernel), rfl, nmX2, tyX2, tyX2_ok, _, _, rfl, rfl, by decide +kernel, rfl, zfs_of (by decide +kernel)⟩
set_option maxRecDepth 20000 in
theorem zcls_3 : zCok 3 RX3 TX3 8 := ⟨zin_of (ps := [215, 217, 219, 221, 223, 225, 227, 229]) (by decide +kernel), List.mem_of_getElem? (i := 201) (by decide +kernel), List.mem_of_getElem? (i := 83) (by decide +kernel), rfl, nmX3, tyX3, tyX3_ok, _, _, rfl, rfl, by decide +kernel, rfl, zfs_of (by decide +kernel)⟩
set_option maxRecDepth 20000 in
theorem zcls_4 : zCok 4 RX4 TX4 6 := ⟨zin_of (ps := [249, 251, 253, 255, 257, 259]) (by decide +kernel), List.mem_of_getElem? (i := 236) (by decide +kernel), List.mem_of_getElem? (i := 84) (by decide +kernel), rfl, nmX4, tyX4, tyX4_ok, _, _, rfl, rfl, by decide +kernel, rfl, zfs_of (by decide +kernel)⟩
set_option maxRecDepth 20000 in
theorem zcls_5 : zCok 5 RX5 TX5 11 := ⟨zin_of (ps := [273, 275, 277, 279, 281, 283, 285, 287, 289, 291, 293]) (by decide +kernel), List.mem_of_getElem? (i := 94) (by decide +kernel), List.mem_of_getElem? (i := 79) (by decide +kernel), rfl, nmX5, tyX5, tyX5_ok, _, _, rfl, rfl, by decide +kernel, rfl, zfs_of (by decide +kernel)⟩
set_option maxRecDepth 20000 in
theorem zcls_6 : zCok 6 RX6 TX6 51 := ⟨zin_of (ps := [875, 877, 879, 881, 883, 885, 887, 889, 891, 893, 895, 897, 899, 901, 903, 905, 907, 909, 911, 913, 915, 917, 919, 921, 923, 925, 927, 929, 931, 933, 935, 937, 939, 941, 943, 945, 947, 949, 951, 953, 955, 957, 959, 961, 963, 965, 967, 969, 971, 973, 975]) (by decide +kernel), List.mem_of_getElem? (i := 819) (by decide +kernel), List.mem_of_getElem? (i := 85) (by decide +kernel), rfl, nmX6, tyX6, tyX6_ok, _, _, rfl, rfl, by decide +kernel, rfl, zfs_of (by decide +kernel)⟩
theorem zcls {ci : Nat} {C : String} {T : u_T} {N : Nat} (h : vwCl[ci]? = some (C, T, N)) : zCok ci C T N := by
  match ci, h with
  | 0, h => cases h; exact zcls_0
  | 1, h => cases h; exact zcls_1
  | 2, h => cases h; exact zcls_2
  | 3, h => cases h; exact zcls_3
  | 4, h => cases h; exact zcls_4
  | 5, h => cases h; exact zcls_5
  | 6, h => cases h; exact zcls_6
  | ci + 7, h => simp [vwCl] at h
def zMall : List zMI → List zYI → Prop
  | [], [] => True
  | q :: a, y :: b => (zMok q y ∧ zDok q.2.2.2.2.2.2.2 y.2.1) ∧ zMall a b
  | _, _ => False
theorem zMall_at : ∀ {a : List zMI} {b : List zYI} {j : Nat} {q : zMI}, zMall a b → zat a j = some q → ∃ y, zat b j = some y ∧ zMok q y ∧ zDok q.2.2.2.2.2.2.2 y.2.1
  | [], _, _, _, _, h => by simp [zat] at h
  | q0 :: a, [], _, _, hz, _ => absurd hz (by simp [zMall])
  | q0 :: a, y0 :: b, 0, q, hz, h => by
    have h1 : q0 = q := Option.some.inj h
    rw [← h1]
    exact ⟨y0, rfl, hz.1.1, hz.1.2⟩
  | q0 :: a, y0 :: b, j + 1, q, hz, h => zMall_at (j := j) hz.2 h
set_option maxRecDepth 20000 in
theorem zM_all : zMall zmt zyt := ⟨⟨zm_X0_init, zd_X0_init⟩, ⟨⟨zm_X0_clear, zd_X0_clear⟩, ⟨⟨zm_X0_copyFrom, zd_X0_copyFrom⟩, ⟨⟨zm_X0_addPerson, zd_X0_addPerson⟩, ⟨⟨zm_X0_hasDateOn, zd_X0_hasDateOn⟩, ⟨⟨zm_X0_addDate, zd_X0_addDate⟩, ⟨⟨zm_X0_removeDate, zd_X0_removeDate⟩, ⟨⟨zm_X0_dropDatesNotBelowDue, zd_X0_dropDatesNotBelowDue⟩, ⟨⟨zm_X0_goalIndex, zd_X0_goalIndex⟩, ⟨⟨zm_X0_goalDay, zd_X0_goalDay⟩, ⟨⟨zm_X0_leftTo, zd_X0_leftTo⟩, ⟨⟨zm_X0_toGo, zd_X0_toGo⟩, ⟨⟨zm_X0_hoursOn, zd_X0_hoursOn⟩, ⟨⟨zm_X0_wantedHours, zd_X0_wantedHours⟩, ⟨⟨zm_X0_liveDay, zd_X0_liveDay⟩, ⟨⟨zm_X0_goTo, zd_X0_goTo⟩, ⟨⟨zm_X0_finish, zd_X0_finish⟩, ⟨⟨zm_X0_live, zd_X0_live⟩, ⟨⟨zm_X0_markFor, zd_X0_markFor⟩, ⟨⟨zm_X0_sumOfMarks, zd_X0_sumOfMarks⟩, ⟨⟨zm_X0_lateSet, zd_X0_lateSet⟩, ⟨⟨zm_X0_handedCount, zd_X0_handedCount⟩, ⟨⟨zm_X1_init, zd_X1_init⟩, ⟨⟨zm_X1_start, zd_X1_start⟩, ⟨⟨zm_X1_copyFrom, zd_X1_copyFrom⟩, ⟨⟨zm_X1_hasHanded, zd_X1_hasHanded⟩, ⟨⟨zm_X1_isIllOn, zd_X1_isIllOn⟩, ⟨⟨zm_X1_hoursOfPart, zd_X1_hoursOfPart⟩, ⟨⟨zm_X2_init, zd_X2_init⟩, ⟨⟨zm_X2_hasItem, zd_X2_hasItem⟩, ⟨⟨zm_X2_narrowed, zd_X2_narrowed⟩, ⟨⟨zm_X3_init, zd_X3_init⟩, ⟨⟨zm_X3_append, zd_X3_append⟩, ⟨⟨zm_X3_readInto, zd_X3_readInto⟩, ⟨⟨zm_X3_readStatement, zd_X3_readStatement⟩, ⟨⟨zm_X3_kindHere, zd_X3_kindHere⟩, ⟨⟨zm_X3_readPerson, zd_X3_readPerson⟩, ⟨⟨zm_X3_readLaw, zd_X3_readLaw⟩, ⟨⟨zm_X3_readDate, zd_X3_readDate⟩, ⟨⟨zm_X3_takeNumber, zd_X3_takeNumber⟩, ⟨⟨zm_X3_takeName, zd_X3_takeName⟩, ⟨⟨zm_X3_takeSign, zd_X3_takeSign⟩, ⟨⟨zm_X3_isName, zd_X3_isName⟩, ⟨⟨zm_X3_isSign, zd_X3_isSign⟩, ⟨⟨zm_X3_fail, zd_X3_fail⟩, ⟨⟨zm_X3_step, zd_X3_step⟩, ⟨⟨zm_X3_sortOf, zd_X3_sortOf⟩, ⟨⟨zm_X4_init, zd_X4_init⟩, ⟨⟨zm_X4_forget, zd_X4_forget⟩, ⟨⟨zm_X4_become, zd_X4_become⟩, ⟨⟨zm_X4_answer, zd_X4_answer⟩, ⟨⟨zm_X4_begin, zd_X4_begin⟩, ⟨⟨zm_X4_worksAs, zd_X4_worksAs⟩, ⟨⟨zm_X4_waitsAs, zd_X4_waitsAs⟩, ⟨⟨zm_X4_sharesAs, zd_X4_sharesAs⟩, ⟨⟨zm_X4_tellsAs, zd_X4_tellsAs⟩, ⟨⟨zm_X4_partedBy, zd_X4_partedBy⟩, ⟨⟨zm_X5_init, zd_X5_init⟩, ⟨⟨zm_X5_feed, zd_X5_feed⟩, ⟨⟨zm_X5_task, zd_X5_task⟩, ⟨⟨zm_X5_set, zd_X5_set⟩, ⟨⟨zm_X5_lawOf, zd_X5_lawOf⟩, ⟨⟨zm_X5_date, zd_X5_date⟩, ⟨⟨zm_X5_dateOf, zd_X5_dateOf⟩, ⟨⟨zm_X5_strike, zd_X5_strike⟩, ⟨⟨zm_X5_person, zd_X5_person⟩, ⟨⟨zm_X5_personOf, zd_X5_personOf⟩, ⟨⟨zm_X5_mind, zd_X5_mind⟩, ⟨⟨zm_X5_ill, zd_X5_ill⟩, ⟨⟨zm_X5_goal, zd_X5_goal⟩, ⟨⟨zm_X5_today, zd_X5_today⟩, ⟨⟨zm_X5_days, zd_X5_days⟩, ⟨⟨zm_X5_heap, zd_X5_heap⟩, ⟨⟨zm_X5_when, zd_X5_when⟩, ⟨⟨zm_X5_markOf, zd_X5_markOf⟩, ⟨⟨zm_X5_late, zd_X5_late⟩, ⟨⟨zm_X5_marks, zd_X5_marks⟩, ⟨⟨zm_X5_bestDate, zd_X5_bestDate⟩, ⟨⟨zm_X5_enough, zd_X5_enough⟩, ⟨⟨zm_X5_patience, zd_X5_patience⟩, ⟨⟨zm_X5_worst, zd_X5_worst⟩, ⟨⟨zm_X5_sooner, zd_X5_sooner⟩, ⟨⟨zm_X5_seed, zd_X5_seed⟩, ⟨⟨zm_X5_lot, zd_X5_lot⟩, ⟨⟨zm_X5_prove, zd_X5_prove⟩, ⟨⟨zm_X5_row, zd_X5_row⟩, ⟨⟨zm_X5_alterRow, zd_X5_alterRow⟩, ⟨⟨zm_X5_judge, zd_X5_judge⟩, ⟨⟨zm_X5_minds, zd_X5_minds⟩, ⟨⟨zm_X5_sheet, zd_X5_sheet⟩, ⟨⟨zm_X5_put, zd_X5_put⟩, ⟨⟨zm_X5_item, zd_X5_item⟩, ⟨⟨zm_X5_shelf, zd_X5_shelf⟩, ⟨⟨zm_X5_taken, zd_X5_taken⟩, ⟨⟨zm_X5_act, zd_X5_act⟩, ⟨⟨zm_X5_trace, zd_X5_trace⟩, ⟨⟨zm_X5_many, zd_X5_many⟩, ⟨⟨zm_X5_keep, zd_X5_keep⟩, ⟨⟨zm_X5_again, zd_X5_again⟩, ⟨⟨zm_X5_tryAsItIs, zd_X5_tryAsItIs⟩, ⟨⟨zm_X5_isPerson, zd_X5_isPerson⟩, ⟨⟨zm_X5_isRowPart, zd_X5_isRowPart⟩, ⟨⟨zm_X5_isRow, zd_X5_isRow⟩, ⟨⟨zm_X5_isThingFor, zd_X5_isThingFor⟩, ⟨⟨zm_X5_personOn, zd_X5_personOn⟩, ⟨⟨zm_X5_isLaw, zd_X5_isLaw⟩, ⟨⟨zm_X5_isKind, zd_X5_isKind⟩, ⟨⟨zm_X5_isA, zd_X5_isA⟩, ⟨⟨zm_X5_isSheet, zd_X5_isSheet⟩, ⟨⟨zm_X5_isShelf, zd_X5_isShelf⟩, ⟨⟨zm_X5_isOfKind, zd_X5_isOfKind⟩, ⟨⟨zm_X6_init, zd_X6_init⟩, ⟨⟨zm_X6_in, zd_X6_in⟩, ⟨⟨zm_X6_isPerson, zd_X6_isPerson⟩, ⟨⟨zm_X6_isLaw, zd_X6_isLaw⟩, ⟨⟨zm_X6_its, zd_X6_its⟩, ⟨⟨zm_X6_becomes, zd_X6_becomes⟩, ⟨⟨zm_X6_ones, zd_X6_ones⟩, ⟨⟨zm_X6_feed, zd_X6_feed⟩, ⟨⟨zm_X6_byteAt, zd_X6_byteAt⟩, ⟨⟨zm_X6_isLetter, zd_X6_isLetter⟩, ⟨⟨zm_X6_isDigit, zd_X6_isDigit⟩, ⟨⟨zm_X6_advance, zd_X6_advance⟩, ⟨⟨zm_X6_isWord, zd_X6_isWord⟩, ⟨⟨zm_X6_isMark, zd_X6_isMark⟩, ⟨⟨zm_X6_kindHere, zd_X6_kindHere⟩, ⟨⟨zm_X6_lawHere, zd_X6_lawHere⟩, ⟨⟨zm_X6_wantNumber, zd_X6_wantNumber⟩, ⟨⟨zm_X6_wantWord, zd_X6_wantWord⟩, ⟨⟨zm_X6_wantEnd, zd_X6_wantEnd⟩, ⟨⟨zm_X6_wantPerson, zd_X6_wantPerson⟩, ⟨⟨zm_X6_wantLaw, zd_X6_wantLaw⟩, ⟨⟨zm_X6_wantDate, zd_X6_wantDate⟩, ⟨⟨zm_X6_wantClause, zd_X6_wantClause⟩, ⟨⟨zm_X6_task, zd_X6_task⟩, ⟨⟨zm_X6_turnsInto, zd_X6_turnsInto⟩, ⟨⟨zm_X6_begins, zd_X6_begins⟩, ⟨⟨zm_X6_dropDates, zd_X6_dropDates⟩, ⟨⟨zm_X6_set, zd_X6_set⟩, ⟨⟨zm_X6_lawOf, zd_X6_lawOf⟩, ⟨⟨zm_X6_hasDate, zd_X6_hasDate⟩, ⟨⟨zm_X6_addDate, zd_X6_addDate⟩, ⟨⟨zm_X6_cutDate, zd_X6_cutDate⟩, ⟨⟨zm_X6_date, zd_X6_date⟩, ⟨⟨zm_X6_dateOf, zd_X6_dateOf⟩, ⟨⟨zm_X6_strike, zd_X6_strike⟩, ⟨⟨zm_X6_person, zd_X6_person⟩, ⟨⟨zm_X6_mark, zd_X6_mark⟩, ⟨⟨zm_X6_orNot, zd_X6_orNot⟩, ⟨⟨zm_X6_personOf, zd_X6_personOf⟩, ⟨⟨zm_X6_mind, zd_X6_mind⟩, ⟨⟨zm_X6_ill, zd_X6_ill⟩, ⟨⟨zm_X6_partOf, zd_X6_partOf⟩, ⟨⟨zm_X6_findGoal, zd_X6_findGoal⟩, ⟨⟨zm_X6_left, zd_X6_left⟩, ⟨⟨zm_X6_toGo, zd_X6_toGo⟩, ⟨⟨zm_X6_isIll, zd_X6_isIll⟩, ⟨⟨zm_X6_would, zd_X6_would⟩, ⟨⟨zm_X6_hours, zd_X6_hours⟩, ⟨⟨zm_X6_dayGoes, zd_X6_dayGoes⟩, ⟨⟨zm_X6_go, zd_X6_go⟩, ⟨⟨zm_X6_goal, zd_X6_goal⟩, ⟨⟨zm_X6_today, zd_X6_today⟩, ⟨⟨zm_X6_days, zd_X6_days⟩, ⟨⟨zm_X6_lends, zd_X6_lends⟩, ⟨⟨zm_X6_tries, zd_X6_tries⟩, ⟨⟨zm_X6_markThen, zd_X6_markThen⟩, ⟨⟨zm_X6_heap, zd_X6_heap⟩, ⟨⟨zm_X6_when, zd_X6_when⟩, ⟨⟨zm_X6_markOf, zd_X6_markOf⟩, ⟨⟨zm_X6_late, zd_X6_late⟩, ⟨⟨zm_X6_marks, zd_X6_marks⟩, ⟨⟨zm_X6_bestDate, zd_X6_bestDate⟩, ⟨⟨zm_X6_enough, zd_X6_enough⟩, ⟨⟨zm_X6_patience, zd_X6_patience⟩, ⟨⟨zm_X6_worst, zd_X6_worst⟩, ⟨⟨zm_X6_sooner, zd_X6_sooner⟩, ⟨⟨zm_X6_seed, zd_X6_seed⟩, ⟨⟨zm_X6_lot, zd_X6_lot⟩, ⟨⟨zm_X6_findRows, zd_X6_findRows⟩, ⟨⟨zm_X6_prove, zd_X6_prove⟩, ⟨⟨zm_X6_isRow, zd_X6_isRow⟩, ⟨⟨zm_X6_row, zd_X6_row⟩, ⟨⟨zm_X6_alterRow, zd_X6_alterRow⟩, ⟨⟨zm_X6_judge, zd_X6_judge⟩, ⟨⟨zm_X6_minds, zd_X6_minds⟩, ⟨⟨zm_X6_isShelf, zd_X6_isShelf⟩, ⟨⟨zm_X6_sheet, zd_X6_sheet⟩, ⟨⟨zm_X6_put, zd_X6_put⟩, ⟨⟨zm_X6_lacksSort, zd_X6_lacksSort⟩, ⟨⟨zm_X6_item, zd_X6_item⟩, ⟨⟨zm_X6_isHeld, zd_X6_isHeld⟩, ⟨⟨zm_X6_shelf, zd_X6_shelf⟩, ⟨⟨zm_X6_kindOn, zd_X6_kindOn⟩, ⟨⟨zm_X6_isUnder, zd_X6_isUnder⟩, ⟨⟨zm_X6_taken, zd_X6_taken⟩, ⟨⟨zm_X6_ran, zd_X6_ran⟩, ⟨⟨zm_X6_plainWorks, zd_X6_plainWorks⟩, ⟨⟨zm_X6_halverWorks, zd_X6_halverWorks⟩, ⟨⟨zm_X6_worksIt, zd_X6_worksIt⟩, ⟨⟨zm_X6_plainWaits, zd_X6_plainWaits⟩, ⟨⟨zm_X6_waitsIt, zd_X6_waitsIt⟩, ⟨⟨zm_X6_plainShares, zd_X6_plainShares⟩, ⟨⟨zm_X6_sharesIt, zd_X6_sharesIt⟩, ⟨⟨zm_X6_plainTells, zd_X6_plainTells⟩, ⟨⟨zm_X6_tellsIt, zd_X6_tellsIt⟩, ⟨⟨zm_X6_act, zd_X6_act⟩, ⟨⟨zm_X6_trace, zd_X6_trace⟩, ⟨⟨zm_X6_many, zd_X6_many⟩, ⟨⟨zm_X6_moveRow, zd_X6_moveRow⟩, ⟨⟨zm_X6_moveAll, zd_X6_moveAll⟩, ⟨⟨zm_X6_keep, zd_X6_keep⟩, ⟨⟨zm_X6_again, zd_X6_again⟩, ⟨⟨zm_J6_bitCount_0f7a4, zd_J6_bitCount_0f7a4⟩, ⟨⟨zm_J0_length_8abf5, zd_J0_length_8abf5⟩, ⟨⟨zm_J0_charAt_5068e, zd_J0_charAt_5068e⟩, ⟨⟨zm_J0_coder_7d493, zd_J0_coder_7d493⟩, ⟨⟨zm_J0_isLatin1_aae02, zd_J0_isLatin1_aae02⟩, ⟨⟨zm_J0_checkIndex_df160, zd_J0_checkIndex_df160⟩, ⟨⟨zm_J1_charAt_3b067, zd_J1_charAt_3b067⟩, ⟨⟨zm_J3_checkIndex_8e157, zd_J3_checkIndex_8e157⟩, trivial⟩⟩⟩⟩⟩⟩⟩⟩⟩⟩⟩⟩⟩⟩⟩⟩⟩⟩⟩⟩⟩⟩⟩⟩⟩⟩⟩⟩⟩⟩⟩⟩⟩⟩⟩⟩⟩⟩⟩⟩⟩⟩⟩⟩⟩⟩⟩⟩⟩⟩⟩⟩⟩⟩⟩⟩⟩⟩⟩⟩⟩⟩⟩⟩⟩⟩⟩⟩⟩⟩⟩⟩⟩⟩⟩⟩⟩⟩⟩⟩⟩⟩⟩⟩⟩⟩⟩⟩⟩⟩⟩⟩⟩⟩⟩⟩⟩⟩⟩⟩⟩⟩⟩⟩⟩⟩⟩⟩⟩⟩⟩⟩⟩⟩⟩⟩⟩⟩⟩⟩⟩⟩⟩⟩⟩⟩⟩⟩⟩⟩⟩⟩⟩⟩⟩⟩⟩⟩⟩⟩⟩⟩⟩⟩⟩⟩⟩⟩⟩⟩⟩⟩⟩⟩⟩⟩⟩⟩⟩⟩⟩⟩⟩⟩⟩⟩⟩⟩⟩⟩⟩⟩⟩⟩⟩⟩⟩⟩⟩⟩⟩⟩⟩⟩⟩⟩⟩⟩⟩⟩⟩⟩⟩⟩⟩⟩⟩⟩⟩⟩⟩⟩⟩⟩⟩⟩⟩⟩⟩⟩⟩⟩⟩⟩⟩⟩⟩⟩⟩⟩⟩
