theorem zMR.u46 {ξ : Nat → Nat → Int32} {ao i : Nat} {K : zCs} (h : zMR ξ ao K) (v : Int32) : zMR (zu ξ 46 i v) ao (K.sp i 0 v) := by
  obtain ⟨a1, a2, a3, a4, a5, a6, a7, a8, a9, a10, a11⟩ := h
  refine ⟨a1, a2, a3, a4, a5, a6, a7, a8, a9, fun j hj => ?_, fun j hj => ?_⟩
  · show _ = (if j = i then upd (K.p i) 0 v else K.p j) 0 ∧ _ = (if j = i then upd (K.p i) 0 v else K.p j) 1 ∧ _ = (if j = i then upd (K.p i) 0 v else K.p j) 2 ∧ _ = (if j = i then upd (K.p i) 0 v else K.p j) 4
    obtain ⟨b1, b2, b3, b4⟩ := a10 j hj
    by_cases e : j = i
    · subst e
      rw [if_pos rfl]
      exact ⟨(zu_same _ _ _ _), b2, b3, b4⟩
    · rw [if_neg e]
      exact ⟨(zu_ne (Or.inr e)).trans b1, b2, b3, b4⟩
  · show _ = (if j = i then upd (K.p i) 0 v else K.p j) 3 ∧ _ = zhd ((if j = i then upd (K.p i) 0 v else K.p j) 5) ∧ _ = (if j = i then upd (K.p i) 0 v else K.p j) 6
    by_cases e : j = i
    · subst e
      rw [if_pos rfl]
      exact a11 j hj
    · rw [if_neg e]
      exact a11 j hj
theorem zMR.u47 {ξ : Nat → Nat → Int32} {ao i : Nat} {K : zCs} (h : zMR ξ ao K) (v : Int32) : zMR (zu ξ 47 i v) ao (K.sp i 1 v) := by
  obtain ⟨a1, a2, a3, a4, a5, a6, a7, a8, a9, a10, a11⟩ := h
  refine ⟨a1, a2, a3, a4, a5, a6, a7, a8, a9, fun j hj => ?_, fun j hj => ?_⟩
  · show _ = (if j = i then upd (K.p i) 1 v else K.p j) 0 ∧ _ = (if j = i then upd (K.p i) 1 v else K.p j) 1 ∧ _ = (if j = i then upd (K.p i) 1 v else K.p j) 2 ∧ _ = (if j = i then upd (K.p i) 1 v else K.p j) 4
    obtain ⟨b1, b2, b3, b4⟩ := a10 j hj
    by_cases e : j = i
    · subst e
      rw [if_pos rfl]
      exact ⟨b1, (zu_same _ _ _ _), b3, b4⟩
    · rw [if_neg e]
      exact ⟨b1, (zu_ne (Or.inr e)).trans b2, b3, b4⟩
  · show _ = (if j = i then upd (K.p i) 1 v else K.p j) 3 ∧ _ = zhd ((if j = i then upd (K.p i) 1 v else K.p j) 5) ∧ _ = (if j = i then upd (K.p i) 1 v else K.p j) 6
    by_cases e : j = i
    · subst e
      rw [if_pos rfl]
      exact a11 j hj
    · rw [if_neg e]
      exact a11 j hj
theorem zMR.u49 {ξ : Nat → Nat → Int32} {ao i : Nat} {K : zCs} (h : zMR ξ ao K) (v : Int32) : zMR (zu ξ 49 i v) ao (K.sp i 4 v) := by
  obtain ⟨a1, a2, a3, a4, a5, a6, a7, a8, a9, a10, a11⟩ := h
  refine ⟨a1, a2, a3, a4, a5, a6, a7, a8, a9, fun j hj => ?_, fun j hj => ?_⟩
  · show _ = (if j = i then upd (K.p i) 4 v else K.p j) 0 ∧ _ = (if j = i then upd (K.p i) 4 v else K.p j) 1 ∧ _ = (if j = i then upd (K.p i) 4 v else K.p j) 2 ∧ _ = (if j = i then upd (K.p i) 4 v else K.p j) 4
    obtain ⟨b1, b2, b3, b4⟩ := a10 j hj
    by_cases e : j = i
    · subst e
      rw [if_pos rfl]
      exact ⟨b1, b2, b3, (zu_same _ _ _ _)⟩
    · rw [if_neg e]
      exact ⟨b1, b2, b3, (zu_ne (Or.inr e)).trans b4⟩
  · show _ = (if j = i then upd (K.p i) 4 v else K.p j) 3 ∧ _ = zhd ((if j = i then upd (K.p i) 4 v else K.p j) 5) ∧ _ = (if j = i then upd (K.p i) 4 v else K.p j) 6
    by_cases e : j = i
    · subst e
      rw [if_pos rfl]
      exact a11 j hj
    · rw [if_neg e]
      exact a11 j hj
theorem zMR.addP {ξ : Nat → Nat → Int32} {K : zCs} (h : zMR ξ 0 K) (hM : K.M < 6) (kd a wk : Int32) : zMR (zu (zu (zu (zu (zu (zu (zu (zu ξ 46 K.M kd) 47 K.M a) 48 K.M wk) 49 K.M 0) 50 (1 + K.M) 0) 50 (7 + K.M) (-1)) 50 (13 + K.M) 0) 42 4 (nI (K.M + 1))) 0 (K.addP kd a wk) := by
  obtain ⟨a1, a2, a3, a4, a5, a6, a7, a8, a9, a10, a11⟩ := h
  refine ⟨a1, a2, a3, zu_same _ _ _ _, ?_, a6, a7, a8, a9, fun j hj => ?_, fun j hj => ?_⟩
  · rw [zun (by decide), zu_ne (Or.inr (by omega)), zu_ne (Or.inr (by omega)), zu_ne (Or.inr (by omega))]
    exact a5
  · have hj2 : j < K.M + 1 := hj
    show zu ξ 46 K.M kd 46 j = (if j = K.M then znewp kd a wk else K.p j) 0 ∧ zu ξ 47 K.M a 47 j = (if j = K.M then znewp kd a wk else K.p j) 1 ∧ zu ξ 48 K.M wk 48 j = (if j = K.M then znewp kd a wk else K.p j) 2 ∧ zu ξ 49 K.M 0 49 j = (if j = K.M then znewp kd a wk else K.p j) 4
    by_cases e : j = K.M
    · rw [if_pos e, e, zu_same, zu_same, zu_same, zu_same]
      exact ⟨rfl, rfl, rfl, rfl⟩
    · rw [if_neg e, zu_ne (Or.inr e), zu_ne (Or.inr e), zu_ne (Or.inr e), zu_ne (Or.inr e)]
      exact a10 j (by omega)
  · have hj2 : j < K.M + 1 := hj
    show zu (zu (zu ξ 50 (1 + K.M) 0) 50 (7 + K.M) (-1)) 50 (13 + K.M) 0 50 (0 + (1 + j)) = (if j = K.M then znewp kd a wk else K.p j) 3 ∧ zu (zu (zu ξ 50 (1 + K.M) 0) 50 (7 + K.M) (-1)) 50 (13 + K.M) 0 50 (0 + (7 + j)) = zhd ((if j = K.M then znewp kd a wk else K.p j) 5) ∧ zu (zu (zu ξ 50 (1 + K.M) 0) 50 (7 + K.M) (-1)) 50 (13 + K.M) 0 50 (0 + (13 + j)) = (if j = K.M then znewp kd a wk else K.p j) 6
    rw [Nat.zero_add, Nat.zero_add, Nat.zero_add]
    have q := a11 j
    rw [Nat.zero_add, Nat.zero_add, Nat.zero_add] at q
    by_cases e : j = K.M
    · rw [if_pos e, e]
      refine ⟨?_, ?_, ?_⟩
      · rw [zu_ne (Or.inr (by omega)), zu_ne (Or.inr (by omega)), zu_same]
        rfl
      · rw [zu_ne (Or.inr (by omega)), zu_same]
        rfl
      · rw [zu_same]
        rfl
    · rw [if_neg e]
      rw [zu_ne (Or.inr (by omega)), zu_ne (Or.inr (by omega)), zu_ne (Or.inr (by omega)), zu_ne (Or.inr (by omega)), zu_ne (Or.inr (by omega)), zu_ne (Or.inr (by omega)), zu_ne (Or.inr (by omega)), zu_ne (Or.inr (by omega)), zu_ne (Or.inr (by omega))]
      exact q (by omega)
theorem zr06 (x : Int32) : (0 ≤ x ∧ x ≤ 5) ↔ (0 ≤ x ∧ x < 6) := zle1 (M := 6) (by decide)
def zCs.perOf (K : zCs) (x what : Int32) : Int32 := zper K x (fun i => if what = 0 then K.p i 0 else if what = 1 then K.p i 1 else if what = 2 then K.p i 2 else if what = 3 then K.p i 3 else if what = 4 then K.p i 4 else if what = 5 then K.p i 5 else if what = 6 then K.p i 6 else if what = 7 then (if K.p i 5 = -9 then -9 else K.mk' i) else -1)
set_option maxRecDepth 20000 in
set_option maxHeartbeats 1000000 in
theorem c_Mperson {S : Nat × (Nat → Int32)} {d n : Nat} {ξ : Nat → Nat → Int32} {ρ : zRho} {K : zCs} (h : zMR ξ 0 K) (hK : zOK K) (kd a wk : Int32) : Zc S (d + 3) jX6_person [.ref 42, .int kd, .int a, .int wk] (zWof n ξ ρ) (fun r w => ∃ ξ2, w = zWof n ξ2 ρ ∧ r = some (.int (K.person kd a wk).2) ∧ zMR ξ2 0 (K.person kd a wk).1 ∧ zfm ξ ξ2) := by
  have hd3 := hK.d3
  have hm6 := hK.m6
  have ht60 := hK.t60
  refine Zc_in (q := (6, 0, 1, 3, 4, 0, 0, zk_X6_person)) rfl (Nat.le_of_ble_eq_true rfl) (L := [_, _, _, _]) rfl ?_
  refine zr_iload_n 1 rfl rfl rfl ?_
  refine zr_iconst 2 (x := 0) rfl rfl (by decide) ?_
  refine zr_iconst 3 (x := 5) rfl rfl (by decide) ?_
  refine zr_calls 6 (As := [_, _, _]) (u2 := (0, 0)) rfl rfl rfl rfl rfl rfl rfl (Nat.le_of_ble_eq_true rfl) (Nat.le_of_ble_eq_true rfl) (Nat.le_of_ble_eq_true rfl) (c_Min _ _ _) rfl (fun v2 w2 h3z => ?_)
  obtain ⟨rfl, rfl⟩ := h3z
  refine zr_if_eq 29 9 rfl rfl (by decide) (fun c6z => ?_) (fun c6z => ?_)
  · replace c6z := zb_0.mp c6z
    rw [zr06] at c6z
    refine zr_iconst 30 (x := (-1)) rfl rfl (by decide) ?_
    refine zr_iret rfl rfl ?_
    refine ⟨ξ, rfl, ?_⟩
    rw [show K.person kd a wk = _ from if_neg (fun q => c6z q.1)]
    exact ⟨rfl, h, zfm.rf _⟩
  · replace c6z := zb_n0.mp c6z
    rw [zr06] at c6z
    refine zr_iload_n 10 rfl rfl rfl ?_
    refine zr_iconst 11 (x := 0) rfl rfl (by decide) ?_
    refine zr_bipush 13 (x := 9) rfl rfl (by decide) ?_
    refine zr_calls 16 (As := [_, _, _]) (u2 := (0, 0)) rfl rfl rfl rfl rfl rfl rfl (Nat.le_of_ble_eq_true rfl) (Nat.le_of_ble_eq_true rfl) (Nat.le_of_ble_eq_true rfl) (c_Min _ _ _) rfl (fun v2 w2 h13z => ?_)
    obtain ⟨rfl, rfl⟩ := h13z
    refine zr_if_eq 29 19 rfl rfl (by decide) (fun c16z => ?_) (fun c16z => ?_)
    · replace c16z := zb_0.mp c16z
      refine zr_iconst 30 (x := (-1)) rfl rfl (by decide) ?_
      refine zr_iret rfl rfl ?_
      refine ⟨ξ, rfl, ?_⟩
      rw [show K.person kd a wk = _ from if_neg (fun q => c16z q.2.1)]
      exact ⟨rfl, h, zfm.rf _⟩
    · replace c16z := zb_n0.mp c16z
      refine zr_iload_n 20 rfl rfl rfl ?_
      refine zr_iconst 21 (x := 1) rfl rfl (by decide) ?_
      refine zr_bipush 23 (x := 99) rfl rfl (by decide) ?_
      refine zr_calls 26 (As := [_, _, _]) (u2 := (0, 0)) rfl rfl rfl rfl rfl rfl rfl (Nat.le_of_ble_eq_true rfl) (Nat.le_of_ble_eq_true rfl) (Nat.le_of_ble_eq_true rfl) (c_Min _ _ _) rfl (fun v2 w2 h23z => ?_)
      obtain ⟨rfl, rfl⟩ := h23z
      refine zr_if_ne 31 29 rfl rfl (by decide) (fun c26z => ?_) (fun c26z => ?_)
      · replace c26z := zb_n0.mp c26z
        refine zr_aload_n 32 rfl rfl rfl trivial ?_
        refine zr_getf 35 rfl rfl rfl rfl rfl ?_
        refine zr_bipush 37 (x := 6) rfl rfl (by decide) ?_
        refine zr_icmp_ne 43 40 rfl rfl (by decide) (fun c37z => ?_) (fun c37z => ?_)
        · have hM6 : K.M < 6 := by
            have : ¬ K.M = 6 := fun q => c37z (by rw [h.hm, q]; rfl)
            omega
          refine zr_aload_n 44 rfl rfl rfl trivial ?_
          refine zr_getf 47 rfl rfl rfl rfl rfl ?_
          refine zr_aload_n 48 rfl rfl rfl trivial ?_
          refine zr_getf 51 rfl rfl rfl rfl rfl ?_
          simp only [zun (show (42 : Nat) ≠ 46 by decide), zun (show (42 : Nat) ≠ 47 by decide), zun (show (42 : Nat) ≠ 48 by decide), zun (show (42 : Nat) ≠ 49 by decide), zun (show (42 : Nat) ≠ 50 by decide), h.hm]
          refine zr_iload_n 52 rfl rfl rfl ?_
          refine zr_iast 53 rfl rfl rfl (nI_clamp (by omega)) (vp_in_nI (by omega) (by omega)) (zW_set rfl) ?_
          refine zr_aload_n 54 rfl rfl rfl trivial ?_
          refine zr_getf 57 rfl rfl rfl rfl rfl ?_
          refine zr_aload_n 58 rfl rfl rfl trivial ?_
          refine zr_getf 61 rfl rfl rfl rfl rfl ?_
          simp only [zun (show (42 : Nat) ≠ 46 by decide), zun (show (42 : Nat) ≠ 47 by decide), zun (show (42 : Nat) ≠ 48 by decide), zun (show (42 : Nat) ≠ 49 by decide), zun (show (42 : Nat) ≠ 50 by decide), h.hm]
          refine zr_iload_n 62 rfl rfl rfl ?_
          refine zr_iast 63 rfl rfl rfl (nI_clamp (by omega)) (vp_in_nI (by omega) (by omega)) (zW_set rfl) ?_
          refine zr_aload_n 64 rfl rfl rfl trivial ?_
          refine zr_getf 67 rfl rfl rfl rfl rfl ?_
          refine zr_aload_n 68 rfl rfl rfl trivial ?_
          refine zr_getf 71 rfl rfl rfl rfl rfl ?_
          simp only [zun (show (42 : Nat) ≠ 46 by decide), zun (show (42 : Nat) ≠ 47 by decide), zun (show (42 : Nat) ≠ 48 by decide), zun (show (42 : Nat) ≠ 49 by decide), zun (show (42 : Nat) ≠ 50 by decide), h.hm]
          refine zr_iload_n 72 rfl rfl rfl ?_
          refine zr_iast 73 rfl rfl rfl (nI_clamp (by omega)) (vp_in_nI (by omega) (by omega)) (zW_set rfl) ?_
          refine zr_aload_n 74 rfl rfl rfl trivial ?_
          refine zr_getf 77 rfl rfl rfl rfl rfl ?_
          refine zr_aload_n 78 rfl rfl rfl trivial ?_
          refine zr_getf 81 rfl rfl rfl rfl rfl ?_
          simp only [zun (show (42 : Nat) ≠ 46 by decide), zun (show (42 : Nat) ≠ 47 by decide), zun (show (42 : Nat) ≠ 48 by decide), zun (show (42 : Nat) ≠ 49 by decide), zun (show (42 : Nat) ≠ 50 by decide), h.hm]
          refine zr_iconst 82 (x := 0) rfl rfl (by decide) ?_
          refine zr_iast 83 rfl rfl rfl (nI_clamp (by omega)) (vp_in_nI (by omega) (by omega)) (zW_set rfl) ?_
          refine zr_aload_n 84 rfl rfl rfl trivial ?_
          refine zr_aload_n 85 rfl rfl rfl trivial ?_
          refine zr_getf 88 rfl rfl rfl rfl rfl ?_
          simp only [zun (show (42 : Nat) ≠ 46 by decide), zun (show (42 : Nat) ≠ 47 by decide), zun (show (42 : Nat) ≠ 48 by decide), zun (show (42 : Nat) ≠ 49 by decide), zun (show (42 : Nat) ≠ 50 by decide), h.hm]
          refine zr_callv 91 (As := [_]) (u2 := (0, 0)) rfl rfl rfl rfl rfl rfl rfl (Nat.le_of_ble_eq_true rfl) (Nat.le_of_ble_eq_true rfl) (Nat.le_of_ble_eq_true rfl) rfl (c_Mbegins (by omega)) rfl (fun v2 w2 h88z => ?_)
          obtain ⟨rfl, rfl⟩ := h88z
          refine zr_aload_n 92 rfl rfl rfl trivial ?_
          refine zr_dup 93 rfl rfl rfl ?_
          refine zr_getf 96 rfl rfl rfl rfl rfl ?_
          simp only [zun (show (42 : Nat) ≠ 46 by decide), zun (show (42 : Nat) ≠ 47 by decide), zun (show (42 : Nat) ≠ 48 by decide), zun (show (42 : Nat) ≠ 49 by decide), zun (show (42 : Nat) ≠ 50 by decide), h.hm]
          refine zr_iconst 97 (x := 1) rfl rfl (by decide) ?_
          refine zr_iadd 98 rfl rfl ?_
          rw [nI_1]
          refine zr_putf 101 rfl rfl rfl rfl (Nat.le_of_ble_eq_true rfl) rfl trivial (fun h => by cases h) (zW_set (k := 4) rfl) ?_
          refine zr_aload_n 102 rfl rfl rfl trivial ?_
          refine zr_getf 105 rfl rfl rfl rfl rfl ?_
          rw [zu_same]
          refine zr_iconst 106 (x := 1) rfl rfl (by decide) ?_
          refine zr_isub 107 rfl rfl ?_
          refine zr_iret rfl rfl ?_
          have hp : zpar kd a wk := ⟨c6z, c16z, c26z⟩
          refine ⟨_, rfl, ?_⟩
          rw [show K.person kd a wk = _ from (if_pos hp).trans (if_pos hM6)]
          exact ⟨congrArg (fun z => some (Value.int z)) (nI_pred K.M), h.addP hM6 kd a wk, ((((((((zfm.rf ξ).u 46 _ _ (by omega)).u 47 _ _ (by omega)).u 48 _ _ (by omega)).u 49 _ _ (by omega)).u 50 _ _ (by omega)).u 50 _ _ (by omega)).u 50 _ _ (by omega)).u 42 4 _ (by decide)⟩
        · have hM6 : ¬ K.M < 6 := by
            rw [h.hm] at c37z
            have := (nI_eq (b := 6) (by omega) (by decide)).mp c37z
            omega
          refine zr_bipush 42 (x := (-2)) rfl rfl (by decide) ?_
          refine zr_iret rfl rfl ?_
          have hp : zpar kd a wk := ⟨c6z, c16z, c26z⟩
          refine ⟨ξ, rfl, ?_⟩
          rw [show K.person kd a wk = _ from (if_pos hp).trans (if_neg hM6)]
          exact ⟨rfl, h, zfm.rf _⟩
      · replace c26z := zb_0.mp c26z
        refine zr_iconst 30 (x := (-1)) rfl rfl (by decide) ?_
        refine zr_iret rfl rfl ?_
        refine ⟨ξ, rfl, ?_⟩
        rw [show K.person kd a wk = _ from if_neg (fun q => c26z q.2.2)]
        exact ⟨rfl, h, zfm.rf _⟩
theorem zclamp_pos (m : Int32) : 0 ≤ zclampF m := by
  unfold zclampF
  by_cases q : 0 < zminI 120 m
  · rw [if_pos q]
    exact Int32.le_of_lt q
  · rw [if_neg q]
    decide
theorem zclamp_le (m : Int32) : zclampF m ≤ 120 := by
  unfold zclampF zminI
  by_cases q : m < 120
  · rw [if_pos q]
    by_cases z : 0 < m
    · rw [if_pos z]
      exact Int32.le_of_lt q
    · rw [if_neg z]
      decide
  · rw [if_neg q]
    decide
theorem zmk_pos {K : zCs} {i : Nat} (h : ¬ K.p i 5 = -9) : 0 ≤ K.mk' i := by
  rw [show K.mk' i = _ from if_neg h]
  exact zclamp_pos _
theorem zmk_le120 (K : zCs) (i : Nat) : K.mk' i ≤ 120 := by
  by_cases h : K.p i 5 = -9
  · rw [show K.mk' i = -1 from if_pos h]
    decide
  · rw [show K.mk' i = _ from if_neg h]
    exact zclamp_le _
theorem zmk_neg {K : zCs} {i : Nat} : K.mk' i < 0 ↔ K.p i 5 = -9 := by
  by_cases h : K.p i 5 = -9
  · rw [show K.mk' i = -1 from if_pos h]
    exact ⟨fun _ => h, fun _ => by decide⟩
  · exact ⟨fun q => absurd (zmk_pos h) (Int32.not_le.mpr q), fun q => absurd q h⟩
set_option maxRecDepth 20000 in
set_option maxHeartbeats 1000000 in
theorem c_MpersonOf {S : Nat × (Nat → Int32)} {d n : Nat} {ξ : Nat → Nat → Int32} {ρ : zRho} {K : zCs} (h : zMR ξ 0 K) (hK : zOK K) (x what : Int32) : Zc S (d + 3) jX6_personOf [.ref 42, .int x, .int what] (zWof n ξ ρ) (fun r w => r = some (.int (K.perOf x what)) ∧ w = zWof n ξ ρ) := by
  have hd3 := hK.d3
  have hm6 := hK.m6
  have ht60 := hK.t60
  refine Zc_in (q := (6, 0, 1, 2, 3, 0, 0, zk_X6_personOf)) rfl (Nat.le_of_ble_eq_true rfl) (L := [_, _, _]) rfl ?_
  refine zr_aload_n 1 rfl rfl rfl trivial ?_
  refine zr_iload_n 2 rfl rfl rfl ?_
  refine zr_callv 5 (As := [_]) (u2 := (0, 0)) rfl rfl rfl rfl rfl rfl rfl (Nat.le_of_ble_eq_true rfl) (Nat.le_of_ble_eq_true rfl) (Nat.le_of_ble_eq_true rfl) rfl (c_MisPerson h hK _) rfl (fun v2 w2 h2z => ?_)
  obtain ⟨rfl, rfl⟩ := h2z
  refine zr_if_eq 18 8 rfl rfl (by decide) (fun c5z => ?_) (fun c5z => ?_)
  · replace c5z := zb_0.mp c5z
    refine zr_iconst 19 (x := (-1)) rfl rfl (by decide) ?_
    refine zr_iret rfl rfl ?_
    refine ⟨?_, rfl⟩
    rw [show K.perOf x what = -1 from zper_out rfl _ c5z]
  · replace c5z := zb_n0.mp c5z
    obtain ⟨i, hi, rfl⟩ := zperI rfl (by omega) c5z
    refine zr_iload_n 9 rfl rfl rfl ?_
    refine zr_iconst 10 (x := 0) rfl rfl (by decide) ?_
    refine zr_bipush 12 (x := 7) rfl rfl (by decide) ?_
    refine zr_calls 15 (As := [_, _, _]) (u2 := (0, 0)) rfl rfl rfl rfl rfl rfl rfl (Nat.le_of_ble_eq_true rfl) (Nat.le_of_ble_eq_true rfl) (Nat.le_of_ble_eq_true rfl) (c_Min _ _ _) rfl (fun v2 w2 h12z => ?_)
    obtain ⟨rfl, rfl⟩ := h12z
    refine zr_if_ne 20 18 rfl rfl (by decide) (fun c15z => ?_) (fun c15z => ?_)
    · replace c15z := zb_n0.mp c15z
      refine zr_iload_n 21 rfl rfl rfl ?_
      by_cases s21_0 : what = 0
      · refine zr_tsw_in 64 0 rfl (by rw [s21_0]; decide) (by decide) rfl (by decide) ?_
        refine zr_aload_n 65 rfl rfl rfl trivial ?_
        refine zr_getf 68 rfl rfl rfl rfl rfl ?_
        refine zr_iload_n 69 rfl rfl rfl ?_
        refine zr_iald 70 rfl rfl rfl (nI_clamp (by omega)) (vp_in_nI (by omega) (by omega)) ?_
        refine zr_iret rfl rfl ?_
        refine ⟨?_, rfl⟩
        unfold zCs.perOf
        rw [zper_in hm6 hi]
        rw [if_pos s21_0, h.k0 hi]
      by_cases s21_1 : what = 1
      · refine zr_tsw_in 71 1 rfl (by rw [s21_1]; decide) (by decide) rfl (by decide) ?_
        refine zr_aload_n 72 rfl rfl rfl trivial ?_
        refine zr_getf 75 rfl rfl rfl rfl rfl ?_
        refine zr_iload_n 76 rfl rfl rfl ?_
        refine zr_iald 77 rfl rfl rfl (nI_clamp (by omega)) (vp_in_nI (by omega) (by omega)) ?_
        refine zr_iret rfl rfl ?_
        refine ⟨?_, rfl⟩
        unfold zCs.perOf
        rw [zper_in hm6 hi]
        rw [if_neg (show ¬ what = 0 by rw [s21_1]; decide), if_pos s21_1, h.k1 hi]
      by_cases s21_2 : what = 2
      · refine zr_tsw_in 78 2 rfl (by rw [s21_2]; decide) (by decide) rfl (by decide) ?_
        refine zr_aload_n 79 rfl rfl rfl trivial ?_
        refine zr_getf 82 rfl rfl rfl rfl rfl ?_
        refine zr_iload_n 83 rfl rfl rfl ?_
        refine zr_iald 84 rfl rfl rfl (nI_clamp (by omega)) (vp_in_nI (by omega) (by omega)) ?_
        refine zr_iret rfl rfl ?_
        refine ⟨?_, rfl⟩
        unfold zCs.perOf
        rw [zper_in hm6 hi]
        rw [if_neg (show ¬ what = 0 by rw [s21_2]; decide), if_neg (show ¬ what = 1 by rw [s21_2]; decide), if_pos s21_2, h.k2 hi]
      by_cases s21_3 : what = 3
      · refine zr_tsw_in 85 3 rfl (by rw [s21_3]; decide) (by decide) rfl (by decide) ?_
        refine zr_aload_n 86 rfl rfl rfl trivial ?_
        refine zr_getf 89 rfl rfl rfl rfl rfl ?_
        refine zr_iconst 90 (x := 1) rfl rfl (by decide) ?_
        refine zr_iload_n 91 rfl rfl rfl ?_
        refine zr_iadd 92 rfl rfl ?_
        rw [show (1 : Int32) + nI i = nI (1 + i) from nI_add 1 i]
        refine zr_iald 93 rfl rfl rfl (nI_clamp (by omega)) (vp_in_nI (by omega) (by omega)) ?_
        refine zr_iret rfl rfl ?_
        refine ⟨?_, rfl⟩
        unfold zCs.perOf
        rw [zper_in hm6 hi]
        rw [if_neg (show ¬ what = 0 by rw [s21_3]; decide), if_neg (show ¬ what = 1 by rw [s21_3]; decide), if_neg (show ¬ what = 2 by rw [s21_3]; decide), if_pos s21_3, show ξ 50 (1 + i) = K.p i 3 from (by have q := h.k3 hi; rw [Nat.zero_add] at q; exact q)]
      by_cases s21_4 : what = 4
      · refine zr_tsw_in 94 4 rfl (by rw [s21_4]; decide) (by decide) rfl (by decide) ?_
        refine zr_aload_n 95 rfl rfl rfl trivial ?_
        refine zr_getf 98 rfl rfl rfl rfl rfl ?_
        refine zr_iload_n 99 rfl rfl rfl ?_
        refine zr_iald 100 rfl rfl rfl (nI_clamp (by omega)) (vp_in_nI (by omega) (by omega)) ?_
        refine zr_iret rfl rfl ?_
        refine ⟨?_, rfl⟩
        unfold zCs.perOf
        rw [zper_in hm6 hi]
        rw [if_neg (show ¬ what = 0 by rw [s21_4]; decide), if_neg (show ¬ what = 1 by rw [s21_4]; decide), if_neg (show ¬ what = 2 by rw [s21_4]; decide), if_neg (show ¬ what = 3 by rw [s21_4]; decide), if_pos s21_4, h.k4 hi]
      by_cases s21_5 : what = 5
      · refine zr_tsw_in 101 5 rfl (by rw [s21_5]; decide) (by decide) rfl (by decide) ?_
        refine zr_aload_n 102 rfl rfl rfl trivial ?_
        refine zr_getf 105 rfl rfl rfl rfl rfl ?_
        refine zr_bipush 107 (x := 7) rfl rfl (by decide) ?_
        refine zr_iload_n 108 rfl rfl rfl ?_
        refine zr_iadd 109 rfl rfl ?_
        rw [show (7 : Int32) + nI i = nI (7 + i) from nI_add 7 i]
        refine zr_iald 110 rfl rfl rfl (nI_clamp (by omega)) (vp_in_nI (by omega) (by omega)) ?_
        refine zr_calls 113 (As := [_]) (u2 := (0, 0)) rfl rfl rfl rfl rfl rfl rfl (Nat.le_of_ble_eq_true rfl) (Nat.le_of_ble_eq_true rfl) (Nat.le_of_ble_eq_true rfl) (c_MorNot _) rfl (fun v2 w2 h110z => ?_)
        obtain ⟨rfl, rfl⟩ := h110z
        refine zr_iret rfl rfl ?_
        refine ⟨?_, rfl⟩
        unfold zCs.perOf
        rw [zper_in hm6 hi]
        rw [if_neg (show ¬ what = 0 by rw [s21_5]; decide), if_neg (show ¬ what = 1 by rw [s21_5]; decide), if_neg (show ¬ what = 2 by rw [s21_5]; decide), if_neg (show ¬ what = 3 by rw [s21_5]; decide), if_neg (show ¬ what = 4 by rw [s21_5]; decide), if_pos s21_5, show ξ 50 (7 + i) = zhd (K.p i 5) from (by have q := h.k5 hi; rw [Nat.zero_add] at q; exact q)]
        unfold zhd
        by_cases q : K.p i 5 = -9
        · rw [if_pos q, if_pos (by decide), q]
        · rw [if_neg q, if_neg]
          rcases hK.h9 hi with z | z
          · exact absurd z q
          · exact Int32.not_lt.mpr (Int32.le_iff_toInt_le.mpr (by rw [zI0]; exact z))
      by_cases s21_6 : what = 6
      · refine zr_tsw_in 114 6 rfl (by rw [s21_6]; decide) (by decide) rfl (by decide) ?_
        refine zr_aload_n 115 rfl rfl rfl trivial ?_
        refine zr_getf 118 rfl rfl rfl rfl rfl ?_
        refine zr_bipush 120 (x := 13) rfl rfl (by decide) ?_
        refine zr_iload_n 121 rfl rfl rfl ?_
        refine zr_iadd 122 rfl rfl ?_
        rw [show (13 : Int32) + nI i = nI (13 + i) from nI_add 13 i]
        refine zr_iald 123 rfl rfl rfl (nI_clamp (by omega)) (vp_in_nI (by omega) (by omega)) ?_
        refine zr_iret rfl rfl ?_
        refine ⟨?_, rfl⟩
        unfold zCs.perOf
        rw [zper_in hm6 hi]
        rw [if_neg (show ¬ what = 0 by rw [s21_6]; decide), if_neg (show ¬ what = 1 by rw [s21_6]; decide), if_neg (show ¬ what = 2 by rw [s21_6]; decide), if_neg (show ¬ what = 3 by rw [s21_6]; decide), if_neg (show ¬ what = 4 by rw [s21_6]; decide), if_neg (show ¬ what = 5 by rw [s21_6]; decide), if_pos s21_6, show ξ 50 (13 + i) = K.p i 6 from (by have q := h.k6 hi; rw [Nat.zero_add] at q; exact q)]
      refine zr_tsw_out 124 rfl (by have q0 := zne_i s21_0; have q1 := zne_i s21_1; have q2 := zne_i s21_2; have q3 := zne_i s21_3; have q4 := zne_i s21_4; have q5 := zne_i s21_5; have q6 := zne_i s21_6; rw [show (0 : Int32).toInt = 0 by decide] at q0; rw [show (1 : Int32).toInt = 1 by decide] at q1; rw [show (2 : Int32).toInt = 2 by decide] at q2; rw [show (3 : Int32).toInt = 3 by decide] at q3; rw [show (4 : Int32).toInt = 4 by decide] at q4; rw [show (5 : Int32).toInt = 5 by decide] at q5; rw [show (6 : Int32).toInt = 6 by decide] at q6; omega) (by decide) ?_
      refine zr_aload_n 125 rfl rfl rfl trivial ?_
      refine zr_iload_n 126 rfl rfl rfl ?_
      refine zr_callv 129 (As := [_]) (u2 := (0, 0)) rfl rfl rfl rfl rfl rfl rfl (Nat.le_of_ble_eq_true rfl) (Nat.le_of_ble_eq_true rfl) (Nat.le_of_ble_eq_true rfl) rfl (c_Mmark h hK hi) rfl (fun v2 w2 h126z => ?_)
      obtain ⟨rfl, rfl⟩ := h126z
      refine zr_calls 132 (As := [_]) (u2 := (0, 0)) rfl rfl rfl rfl rfl rfl rfl (Nat.le_of_ble_eq_true rfl) (Nat.le_of_ble_eq_true rfl) (Nat.le_of_ble_eq_true rfl) (c_MorNot _) rfl (fun v2 w2 h129z => ?_)
      obtain ⟨rfl, rfl⟩ := h129z
      refine zr_iret rfl rfl ?_
      refine ⟨?_, rfl⟩
      unfold zCs.perOf
      rw [zper_in hm6 hi]
      rw [if_neg s21_0, if_neg s21_1, if_neg s21_2, if_neg s21_3, if_neg s21_4, if_neg s21_5, if_neg s21_6, if_pos (show what = 7 by
        obtain ⟨w, hw, rfl⟩ := zbetI (k := 7) rfl (by decide) c15z.1 c15z.2
        rcases (by omega : w = 0 ∨ w = 1 ∨ w = 2 ∨ w = 3 ∨ w = 4 ∨ w = 5 ∨ w = 6 ∨ w = 7) with rfl | rfl | rfl | rfl | rfl | rfl | rfl | rfl
        · exact absurd rfl s21_0
        · exact absurd rfl s21_1
        · exact absurd rfl s21_2
        · exact absurd rfl s21_3
        · exact absurd rfl s21_4
        · exact absurd rfl s21_5
        · exact absurd rfl s21_6
        · rfl)]
      by_cases q : K.p i 5 = -9
      · rw [if_pos q, show K.mk' i = -1 from if_pos q, if_pos (by decide)]
      · rw [if_neg q, if_neg (Int32.not_lt.mpr (zmk_pos q))]
    · replace c15z := zb_0.mp c15z
      have hw : ¬ (what = 0 ∨ what = 1 ∨ what = 2 ∨ what = 3 ∨ what = 4 ∨ what = 5 ∨ what = 6 ∨ what = 7) := by
        rintro (rfl | rfl | rfl | rfl | rfl | rfl | rfl | rfl) <;> exact c15z (by decide)
      refine zr_iconst 19 (x := (-1)) rfl rfl (by decide) ?_
      refine zr_iret rfl rfl ?_
      refine ⟨?_, rfl⟩
      unfold zCs.perOf
      rw [zper_in hm6 hi]
      rw [if_neg (fun q => hw (Or.inl q)), if_neg (fun q => hw (Or.inr (Or.inl q))), if_neg (fun q => hw (Or.inr (Or.inr (Or.inl q)))), if_neg (fun q => hw (Or.inr (Or.inr (Or.inr (Or.inl q))))), if_neg (fun q => hw (Or.inr (Or.inr (Or.inr (Or.inr (Or.inl q)))))), if_neg (fun q => hw (Or.inr (Or.inr (Or.inr (Or.inr (Or.inr (Or.inl q))))))), if_neg (fun q => hw (Or.inr (Or.inr (Or.inr (Or.inr (Or.inr (Or.inr (Or.inl q)))))))), if_neg (fun q => hw (Or.inr (Or.inr (Or.inr (Or.inr (Or.inr (Or.inr (Or.inr q))))))))]
set_option maxRecDepth 20000 in
set_option maxHeartbeats 1000000 in
theorem c_Mmind {S : Nat × (Nat → Int32)} {d n : Nat} {ξ : Nat → Nat → Int32} {ρ : zRho} {K : zCs} (h : zMR ξ 0 K) (hK : zOK K) (x kd a : Int32) : Zc S (d + 3) jX6_mind [.ref 42, .int x, .int kd, .int a] (zWof n ξ ρ) (fun r w => ∃ ξ2, w = zWof n ξ2 ρ ∧ r = some (.int (K.mind x kd a).2) ∧ zMR ξ2 0 (K.mind x kd a).1 ∧ zfm ξ ξ2) := by
  have hd3 := hK.d3
  have hm6 := hK.m6
  have ht60 := hK.t60
  refine Zc_in (q := (6, 0, 1, 3, 5, 0, 0, zk_X6_mind)) rfl (Nat.le_of_ble_eq_true rfl) (L := [_, _, _, _, _]) rfl ?_
  refine zr_aload_n 1 rfl rfl rfl trivial ?_
  refine zr_iload_n 2 rfl rfl rfl ?_
  refine zr_callv 5 (As := [_]) (u2 := (0, 0)) rfl rfl rfl rfl rfl rfl rfl (Nat.le_of_ble_eq_true rfl) (Nat.le_of_ble_eq_true rfl) (Nat.le_of_ble_eq_true rfl) rfl (c_MisPerson h hK _) rfl (fun v2 w2 h2z => ?_)
  obtain ⟨rfl, rfl⟩ := h2z
  refine zr_if_eq 27 8 rfl rfl (by decide) (fun c5z => ?_) (fun c5z => ?_)
  · replace c5z := zb_0.mp c5z
    refine zr_iconst 28 (x := (-1)) rfl rfl (by decide) ?_
    refine zr_iret rfl rfl ?_
    refine ⟨ξ, rfl, ?_⟩
    rw [show K.mind x kd a = _ from if_neg (fun q => c5z q.1)]
    exact ⟨rfl, h, zfm.rf _⟩
  · replace c5z := zb_n0.mp c5z
    refine zr_iload_n 9 rfl rfl rfl ?_
    refine zr_iconst 10 (x := 0) rfl rfl (by decide) ?_
    refine zr_iconst 11 (x := 5) rfl rfl (by decide) ?_
    refine zr_calls 14 (As := [_, _, _]) (u2 := (0, 0)) rfl rfl rfl rfl rfl rfl rfl (Nat.le_of_ble_eq_true rfl) (Nat.le_of_ble_eq_true rfl) (Nat.le_of_ble_eq_true rfl) (c_Min _ _ _) rfl (fun v2 w2 h11z => ?_)
    obtain ⟨rfl, rfl⟩ := h11z
    refine zr_if_eq 27 17 rfl rfl (by decide) (fun c14z => ?_) (fun c14z => ?_)
    · replace c14z := zb_0.mp c14z
      rw [zr06] at c14z
      refine zr_iconst 28 (x := (-1)) rfl rfl (by decide) ?_
      refine zr_iret rfl rfl ?_
      refine ⟨ξ, rfl, ?_⟩
      rw [show K.mind x kd a = _ from if_neg (fun q => c14z q.2.1)]
      exact ⟨rfl, h, zfm.rf _⟩
    · replace c14z := zb_n0.mp c14z
      rw [zr06] at c14z
      refine zr_iload_n 18 rfl rfl rfl ?_
      refine zr_iconst 19 (x := 0) rfl rfl (by decide) ?_
      refine zr_bipush 21 (x := 9) rfl rfl (by decide) ?_
      refine zr_calls 24 (As := [_, _, _]) (u2 := (0, 0)) rfl rfl rfl rfl rfl rfl rfl (Nat.le_of_ble_eq_true rfl) (Nat.le_of_ble_eq_true rfl) (Nat.le_of_ble_eq_true rfl) (c_Min _ _ _) rfl (fun v2 w2 h21z => ?_)
      obtain ⟨rfl, rfl⟩ := h21z
      refine zr_if_ne 29 27 rfl rfl (by decide) (fun c24z => ?_) (fun c24z => ?_)
      · replace c24z := zb_n0.mp c24z
        obtain ⟨i, hi, rfl⟩ := zperI rfl (by omega) c5z
        refine zr_aload_n 30 rfl rfl rfl trivial ?_
        refine zr_getf 33 rfl rfl rfl rfl rfl ?_
        refine zr_iload_n 34 rfl rfl rfl ?_
        refine zr_iald 35 rfl rfl rfl (nI_clamp (by omega)) (vp_in_nI (by omega) (by omega)) ?_
        refine zr_istore 37 (L2 := [_, _, _, _, _]) rfl rfl (Nat.le_of_ble_eq_true rfl) (by first | exact trivial | exact rfl) rfl ?_
        refine zr_aload_n 38 rfl rfl rfl trivial ?_
        refine zr_getf 41 rfl rfl rfl rfl rfl ?_
        refine zr_iload_n 42 rfl rfl rfl ?_
        refine zr_iload_n 43 rfl rfl rfl ?_
        refine zr_iast 44 rfl rfl rfl (nI_clamp (by omega)) (vp_in_nI (by omega) (by omega)) (zW_set rfl) ?_
        refine zr_aload_n 45 rfl rfl rfl trivial ?_
        refine zr_getf 48 rfl rfl rfl rfl rfl ?_
        refine zr_iload_n 49 rfl rfl rfl ?_
        refine zr_iload_n 50 rfl rfl rfl ?_
        refine zr_iast 51 rfl rfl rfl (nI_clamp (by omega)) (vp_in_nI (by omega) (by omega)) (zW_set rfl) ?_
        refine zr_iload 53 rfl rfl rfl ?_
        refine zr_iret rfl rfl ?_
        refine ⟨_, rfl, ?_⟩
        rw [show K.mind (nI i) kd a = _ from if_pos ⟨c5z, c14z, c24z⟩, nI_clamp (by omega)]
        exact ⟨by rw [h.k0 hi], (h.u46 kd).u47 a, ((zfm.rf ξ).u 46 _ _ (by omega)).u 47 _ _ (by omega)⟩
      · replace c24z := zb_0.mp c24z
        refine zr_iconst 28 (x := (-1)) rfl rfl (by decide) ?_
        refine zr_iret rfl rfl ?_
        refine ⟨ξ, rfl, ?_⟩
        rw [show K.mind x kd a = _ from if_neg (fun q => c24z q.2.2)]
        exact ⟨rfl, h, zfm.rf _⟩
set_option maxRecDepth 20000 in
set_option maxHeartbeats 1000000 in
theorem c_Mlot {S : Nat × (Nat → Int32)} {d n : Nat} {ξ : Nat → Nat → Int32} {ρ : zRho} {K : zCs} (h : zMR ξ 0 K) (hK : zOK K) (x : Int32) : Zc S (d + 3) jX6_lot [.ref 42, .int x] (zWof n ξ ρ) (fun r w => ∃ ξ2, w = zWof n ξ2 ρ ∧ r = some (.int (K.lot x).2) ∧ zMR ξ2 0 (K.lot x).1 ∧ zfm ξ ξ2) := by
  have hd3 := hK.d3
  have hm6 := hK.m6
  have ht60 := hK.t60
  refine Zc_in (q := (6, 0, 1, 1, 3, 0, 0, zk_X6_lot)) rfl (Nat.le_of_ble_eq_true rfl) (L := [_, _, _]) rfl ?_
  refine zr_aload_n 1 rfl rfl rfl trivial ?_
  refine zr_iload_n 2 rfl rfl rfl ?_
  refine zr_callv 5 (As := [_]) (u2 := (0, 0)) rfl rfl rfl rfl rfl rfl rfl (Nat.le_of_ble_eq_true rfl) (Nat.le_of_ble_eq_true rfl) (Nat.le_of_ble_eq_true rfl) rfl (c_MisPerson h hK _) rfl (fun v2 w2 h2z => ?_)
  obtain ⟨rfl, rfl⟩ := h2z
  refine zr_if_ne 10 8 rfl rfl (by decide) (fun c5z => ?_) (fun c5z => ?_)
  · replace c5z := zb_n0.mp c5z
    obtain ⟨i, hi, rfl⟩ := zperI rfl (by omega) c5z
    refine zr_aload_n 11 rfl rfl rfl trivial ?_
    refine zr_aload_n 12 rfl rfl rfl trivial ?_
    refine zr_getf 15 rfl rfl rfl rfl rfl ?_
    rw [h.hz]
    refine zr_ldc_w 18 rfl rfl rfl ?_
    refine zr_imul 19 rfl rfl ?_
    refine zr_sipush 22 (x := 12345) rfl rfl (by decide) ?_
    refine zr_iadd 23 rfl rfl ?_
    refine zr_putf 26 rfl rfl rfl rfl (Nat.le_of_ble_eq_true rfl) rfl trivial (fun h => by cases h) (zW_set (k := 11) rfl) ?_
    refine zr_aload_n 27 rfl rfl rfl trivial ?_
    refine zr_getf 30 rfl rfl rfl rfl rfl ?_
    rw [zu_same]
    refine zr_bipush 32 (x := 16) rfl rfl (by decide) ?_
    refine zr_iushr 33 rfl rfl ?_
    refine zr_bipush 35 (x := 30) rfl rfl (by decide) ?_
    refine zr_irem 36 rfl rfl (by decide) ?_
    refine zr_istore_n 37 (L2 := [_, _, _]) rfl rfl (Nat.le_of_ble_eq_true rfl) (by first | exact trivial | exact rfl) rfl ?_
    refine zr_aload_n 38 rfl rfl rfl trivial ?_
    refine zr_getf 41 rfl rfl rfl rfl rfl ?_
    refine zr_iload_n 42 rfl rfl rfl ?_
    refine zr_dup2 43 rfl rfl rfl rfl ?_
    refine zr_iald 44 rfl rfl rfl (nI_clamp (by omega)) (vp_in_nI (by omega) (by omega)) ?_
    refine zr_iconst 45 (x := 1) rfl rfl (by decide) ?_
    refine zr_iload_n 46 rfl rfl rfl ?_
    refine zr_ishl 47 rfl rfl ?_
    refine zr_ior 48 rfl rfl ?_
    refine zr_iast 49 rfl rfl rfl (nI_clamp (by omega)) (vp_in_nI (by omega) (by omega)) (zW_set rfl) ?_
    refine zr_iload_n 50 rfl rfl rfl ?_
    refine zr_iret rfl rfl ?_
    refine ⟨_, rfl, ?_⟩
    rw [show K.lot (nI i) = _ from if_pos c5z, nI_clamp (by omega)]
    have e := (h.sz (K.z * 1103515245 + 12345)).u49 (i := i) (K.p i 4 ||| (1 : Int32) <<< (zlotD (K.z * 1103515245 + 12345) &&& 31))
    refine ⟨rfl, ?_, ((zfm.rf ξ).u 42 11 _ (by decide)).u 49 _ _ (by omega)⟩
    refine Eq.mp ?_ e
    rw [← h.k4 hi]
    rfl
  · replace c5z := zb_0.mp c5z
    refine zr_iconst 9 (x := (-1)) rfl rfl (by decide) ?_
    refine zr_iret rfl rfl ?_
    refine ⟨ξ, rfl, ?_⟩
    rw [show K.lot x = _ from if_neg c5z]
    exact ⟨rfl, h, zfm.rf _⟩
set_option maxRecDepth 20000 in
set_option maxHeartbeats 1000000 in
theorem c_Mdays {S : Nat × (Nat → Int32)} {d n : Nat} {ξ : Nat → Nat → Int32} {ρ : zRho} {K : zCs} (h : zMR ξ 0 K) (hK : zOK K) (x : Int32) : Zc S (d + 7) jX6_days [.ref 42, .int x] (zWof n ξ ρ) (fun r w => ∃ ξ2, w = zWof n ξ2 ρ ∧ r = some (.int (K.days x).2) ∧ zMR ξ2 0 (K.days x).1 ∧ zfm ξ ξ2) := by
  have hd3 := hK.d3
  have hm6 := hK.m6
  have ht60 := hK.t60
  refine Zc_in (q := (6, 0, 1, 1, 2, 0, 0, zk_X6_days)) rfl (Nat.le_of_ble_eq_true rfl) (L := [_, _]) rfl ?_
  refine zr_iload_n 1 rfl rfl rfl ?_
  refine zr_iconst 2 (x := 0) rfl rfl (by decide) ?_
  refine zr_bipush 4 (x := 60) rfl rfl (by decide) ?_
  refine zr_calls 7 (As := [_, _, _]) (u2 := (0, 0)) rfl rfl rfl rfl rfl rfl rfl (Nat.le_of_ble_eq_true rfl) (Nat.le_of_ble_eq_true rfl) (Nat.le_of_ble_eq_true rfl) (c_Min _ _ _) rfl (fun v2 w2 h4z => ?_)
  obtain ⟨rfl, rfl⟩ := h4z
  refine zr_if_ne 12 10 rfl rfl (by decide) (fun c7z => ?_) (fun c7z => ?_)
  · replace c7z := zb_n0.mp c7z
    obtain ⟨i, hi, rfl⟩ := zbetI (k := 60) rfl (by decide) c7z.1 c7z.2
    refine zr_aload_n 13 rfl rfl rfl trivial ?_
    refine zr_iload_n 14 rfl rfl rfl ?_
    refine zr_callv 17 (As := [_]) (u2 := (0, 0)) rfl rfl rfl rfl rfl rfl rfl (Nat.le_of_ble_eq_true rfl) (Nat.le_of_ble_eq_true rfl) (Nat.le_of_ble_eq_true rfl) rfl (c_Mgo h hK hi) rfl (fun v2 w2 h14z => ?_)
    obtain ⟨rfl, ξ2, rfl, m2, f2⟩ := h14z
    refine zr_aload_n 18 rfl rfl rfl trivial ?_
    refine zr_getf 21 rfl rfl rfl rfl rfl ?_
    refine zr_iconst 22 (x := 0) rfl rfl (by decide) ?_
    refine zr_iald 23 (i := 0) rfl rfl rfl (by decide) (by unfold vp_in; decide) ?_
    refine zr_iret rfl rfl ?_
    refine ⟨ξ2, rfl, ?_⟩
    rw [show K.days (nI i) = _ from if_pos c7z, nI_clamp (by omega)]
    exact ⟨by rw [m2.ht]; rfl, m2, f2.fm⟩
  · replace c7z := zb_0.mp c7z
    refine zr_iconst 11 (x := (-1)) rfl rfl (by decide) ?_
    refine zr_iret rfl rfl ?_
    refine ⟨ξ, rfl, ?_⟩
    rw [show K.days x = _ from if_neg c7z]
    exact ⟨rfl, h, zfm.rf _⟩
set_option maxRecDepth 20000 in
set_option maxHeartbeats 1000000 in
theorem c_Mgoal {S : Nat × (Nat → Int32)} {d n : Nat} {ξ : Nat → Nat → Int32} {ρ : zRho} {K : zCs} (h : zMR ξ 0 K) (hK : zOK K) (x what : Int32) : Zc S (d + 5) jX6_goal [.ref 42, .int x, .int what] (zWof n ξ ρ) (fun r w => ∃ ξ2, w = zWof n ξ2 ρ ∧ r = some (.int (K.goal x what)) ∧ zft ξ ξ2) := by
  have hd3 := hK.d3
  have hm6 := hK.m6
  have ht60 := hK.t60
  refine Zc_in (q := (6, 0, 1, 2, 4, 0, 0, zk_X6_goal)) rfl (Nat.le_of_ble_eq_true rfl) (L := [_, _, _, _]) rfl ?_
  refine zr_aload_n 1 rfl rfl rfl trivial ?_
  refine zr_iload_n 2 rfl rfl rfl ?_
  refine zr_callv 5 (As := [_]) (u2 := (0, 0)) rfl rfl rfl rfl rfl rfl rfl (Nat.le_of_ble_eq_true rfl) (Nat.le_of_ble_eq_true rfl) (Nat.le_of_ble_eq_true rfl) rfl (c_MisPerson h hK _) rfl (fun v2 w2 h2z => ?_)
  obtain ⟨rfl, rfl⟩ := h2z
  refine zr_if_eq 17 8 rfl rfl (by decide) (fun c5z => ?_) (fun c5z => ?_)
  · replace c5z := zb_0.mp c5z
    refine zr_iconst 18 (x := (-1)) rfl rfl (by decide) ?_
    refine zr_iret rfl rfl ?_
    refine ⟨ξ, rfl, ?_, zft.rf _⟩
    unfold zCs.goal
    by_cases q : what < 0 ∨ 3 < what
    · rw [if_pos q]
    · rw [if_neg q, zper_out rfl _ c5z]
  · replace c5z := zb_n0.mp c5z
    obtain ⟨i, hi, rfl⟩ := zperI rfl (by omega) c5z
    refine zr_iload_n 9 rfl rfl rfl ?_
    refine zr_iconst 10 (x := 0) rfl rfl (by decide) ?_
    refine zr_iconst 11 (x := 3) rfl rfl (by decide) ?_
    refine zr_calls 14 (As := [_, _, _]) (u2 := (0, 0)) rfl rfl rfl rfl rfl rfl rfl (Nat.le_of_ble_eq_true rfl) (Nat.le_of_ble_eq_true rfl) (Nat.le_of_ble_eq_true rfl) (c_Min _ _ _) rfl (fun v2 w2 h11z => ?_)
    obtain ⟨rfl, rfl⟩ := h11z
    refine zr_if_ne 19 17 rfl rfl (by decide) (fun c14z => ?_) (fun c14z => ?_)
    · replace c14z := zb_n0.mp c14z
      have hw : ¬ (what < 0 ∨ 3 < what) := by
        rintro (q | q)
        · exact absurd c14z.1 (Int32.not_le.mpr q)
        · exact absurd c14z.2 (Int32.not_le.mpr q)
      have r7 : ξ 50 (7 + i) = zhd (K.p i 5) := (by have q := h.k5 hi; rw [Nat.zero_add] at q; exact q)
      refine zr_aload_n 20 rfl rfl rfl trivial ?_
      refine zr_getf 23 rfl rfl rfl rfl rfl ?_
      refine zr_bipush 25 (x := 7) rfl rfl (by decide) ?_
      refine zr_iload_n 26 rfl rfl rfl ?_
      refine zr_iadd 27 rfl rfl ?_
      rw [show (7 : Int32) + nI i = nI (7 + i) from nI_add 7 i]
      refine zr_iald 28 rfl rfl rfl (nI_clamp (by omega)) (vp_in_nI (by omega) (by omega)) ?_
      refine zr_if_ge 42 31 rfl rfl (by decide) (fun c28z => ?_) (fun c28z => ?_)
      · rw [r7] at c28z
        refine zr_bipush 44 (x := (-4)) rfl rfl (by decide) ?_
        refine zr_iret rfl rfl ?_
        refine ⟨ξ, rfl, ?_, zft.rf _⟩
        unfold zCs.goal
        rw [if_neg hw, zper_in hm6 hi]
        rw [if_pos (Or.inl ((zhd_neg (hK.h9 hi)).2.mp c28z))]
      · rw [r7] at c28z
        have h9 : K.p i 5 = -9 := (zhd_neg (hK.h9 hi)).1.mp (Int32.not_le.mp c28z)
        refine zr_aload_n 32 rfl rfl rfl trivial ?_
        refine zr_getf 35 rfl rfl rfl rfl rfl ?_
        refine zr_iconst 36 (x := 0) rfl rfl (by decide) ?_
        refine zr_iald 37 (i := 0) rfl rfl rfl (by decide) (by unfold vp_in; decide) ?_
        refine zr_bipush 39 (x := 60) rfl rfl (by decide) ?_
        refine zr_icmp_ne 45 42 rfl rfl (by decide) (fun c39z => ?_) (fun c39z => ?_)
        · have hT : ¬ 60 ≤ K.T := by
            have : ¬ K.T = 60 := fun q => c39z (by rw [h.ht, q]; rfl)
            omega
          refine zr_aload_n 46 rfl rfl rfl trivial ?_
          refine zr_iload_n 47 rfl rfl rfl ?_
          refine zr_callv 50 (As := [_]) (u2 := (0, 0)) rfl rfl rfl rfl rfl rfl rfl (Nat.le_of_ble_eq_true rfl) (Nat.le_of_ble_eq_true rfl) (Nat.le_of_ble_eq_true rfl) rfl (c_Mhours h hK hi) rfl (fun v2 w2 h47z => ?_)
          obtain ⟨rfl, ξ1, rfl, f1, g1⟩ := h47z
          obtain ⟨g29, g30⟩ := g1 h9
          have m1 := f1.mr h hm6
          refine zr_istore_n 51 (L2 := [_, _, _, _]) rfl rfl (Nat.le_of_ble_eq_true rfl) (by first | exact trivial | exact rfl) rfl ?_
          refine zr_iload_n 52 rfl rfl rfl ?_
          refine zr_if_ne 62 55 rfl rfl (by decide) (fun c52z => ?_) (fun c52z => ?_)
          · refine zr_iload_n 63 rfl rfl rfl ?_
            refine zr_iconst 64 (x := 1) rfl rfl (by decide) ?_
            refine zr_icmp_ne 75 67 rfl rfl (by decide) (fun c64z => ?_) (fun c64z => ?_)
            · refine zr_iload_n 76 rfl rfl rfl ?_
              refine zr_iconst 77 (x := 2) rfl rfl (by decide) ?_
              refine zr_icmp_ne 87 80 rfl rfl (by decide) (fun c77z => ?_) (fun c77z => ?_)
              · refine zr_iload_n 88 rfl rfl rfl ?_
                refine zr_iret rfl rfl ?_
                refine ⟨ξ1, rfl, ?_, ⟨fun a q1 _ => f1.1 a q1, f1.2, fun k _ => by rw [f1.1 50 (by decide)]⟩⟩
                unfold zCs.goal
                rw [if_neg hw, zper_in hm6 hi, if_neg (show ¬ (¬ K.p i 5 = -9 ∨ 60 ≤ K.T) from fun q => q.elim (fun z => z h9) hT)]
                rw [if_neg c52z, if_neg c64z, if_neg c77z, show K.hrn i = K.hrs i from if_pos h9]
              · refine zr_aload_n 81 rfl rfl rfl trivial ?_
                refine zr_callv 84 (As := []) (u2 := (0, 0)) rfl rfl rfl rfl rfl rfl rfl (Nat.le_of_ble_eq_true rfl) (Nat.le_of_ble_eq_true rfl) (Nat.le_of_ble_eq_true rfl) rfl (c_MtoGo m1 hK) rfl (fun v2 w2 h81z => ?_)
                obtain ⟨rfl, rfl⟩ := h81z
                refine zr_goto 88 rfl (by decide) ?_
                refine zr_iret rfl rfl ?_
                refine ⟨ξ1, rfl, ?_, ⟨fun a q1 _ => f1.1 a q1, f1.2, fun k _ => by rw [f1.1 50 (by decide)]⟩⟩
                unfold zCs.goal
                rw [if_neg hw, zper_in hm6 hi, if_neg (show ¬ (¬ K.p i 5 = -9 ∨ 60 ≤ K.T) from fun q => q.elim (fun z => z h9) hT)]
                rw [if_neg c52z, if_neg c64z, if_pos c77z, g29]
            · refine zr_aload_n 68 rfl rfl rfl trivial ?_
              refine zr_iload_n 69 rfl rfl rfl ?_
              refine zr_callv 72 (As := [_]) (u2 := (0, 0)) rfl rfl rfl rfl rfl rfl rfl (Nat.le_of_ble_eq_true rfl) (Nat.le_of_ble_eq_true rfl) (Nat.le_of_ble_eq_true rfl) rfl (c_Mleft m1 hK hi) rfl (fun v2 w2 h69z => ?_)
              obtain ⟨rfl, rfl⟩ := h69z
              refine zr_goto 88 rfl (by decide) ?_
              refine zr_iret rfl rfl ?_
              refine ⟨ξ1, rfl, ?_, ⟨fun a q1 _ => f1.1 a q1, f1.2, fun k _ => by rw [f1.1 50 (by decide)]⟩⟩
              unfold zCs.goal
              rw [if_neg hw, zper_in hm6 hi, if_neg (show ¬ (¬ K.p i 5 = -9 ∨ 60 ≤ K.T) from fun q => q.elim (fun z => z h9) hT)]
              rw [if_neg c52z, if_pos c64z, g30]
              rfl
          · refine zr_aload_n 56 rfl rfl rfl trivial ?_
            refine zr_getf 59 rfl rfl rfl rfl rfl ?_
            refine zr_goto 88 rfl (by decide) ?_
            refine zr_iret rfl rfl ?_
            refine ⟨ξ1, rfl, ?_, ⟨fun a q1 _ => f1.1 a q1, f1.2, fun k _ => by rw [f1.1 50 (by decide)]⟩⟩
            unfold zCs.goal
            rw [if_neg hw, zper_in hm6 hi, if_neg (show ¬ (¬ K.p i 5 = -9 ∨ 60 ≤ K.T) from fun q => q.elim (fun z => z h9) hT)]
            rw [if_pos c52z, g29]
        · have hT : 60 ≤ K.T := by
            rw [h.ht] at c39z
            exact Nat.le_of_eq ((nI_eq (b := 60) (by omega) (by decide)).mp c39z).symm
          refine zr_bipush 44 (x := (-4)) rfl rfl (by decide) ?_
          refine zr_iret rfl rfl ?_
          refine ⟨ξ, rfl, ?_, zft.rf _⟩
          unfold zCs.goal
          rw [if_neg hw, zper_in hm6 hi]
          rw [if_pos (Or.inr hT)]
    · replace c14z := zb_0.mp c14z
      have hw : what < 0 ∨ 3 < what := by
        by_cases q : what < 0
        · exact Or.inl q
        · exact Or.inr (Int32.not_le.mp (fun z => c14z ⟨Int32.not_lt.mp q, z⟩))
      refine zr_iconst 18 (x := (-1)) rfl rfl (by decide) ?_
      refine zr_iret rfl rfl ?_
      refine ⟨ξ, rfl, ?_, zft.rf _⟩
      unfold zCs.goal
      rw [if_pos hw]
set_option maxRecDepth 20000 in
set_option maxHeartbeats 1000000 in
theorem c_Mheap {S : Nat × (Nat → Int32)} {d n : Nat} {ξ : Nat → Nat → Int32} {ρ : zRho} {K : zCs} (h : zMR ξ 0 K) (hK : zOK K) (x : Int32) : Zc S (d + 8) jX6_heap [.ref 42, .int x] (zWof n ξ ρ) (fun r w => ∃ ξ2, w = zWof n ξ2 ρ ∧ r = some (.int (K.heap x)) ∧ zft ξ ξ2) := by
  have hd3 := hK.d3
  have hm6 := hK.m6
  have ht60 := hK.t60
  refine Zc_in (q := (6, 0, 1, 1, 4, 0, 0, zk_X6_heap)) rfl (Nat.le_of_ble_eq_true rfl) (L := [_, _, _, _]) rfl ?_
  refine zr_iload_n 1 rfl rfl rfl ?_
  refine zr_iconst 2 (x := 0) rfl rfl (by decide) ?_
  refine zr_bipush 4 (x := 59) rfl rfl (by decide) ?_
  refine zr_calls 7 (As := [_, _, _]) (u2 := (0, 0)) rfl rfl rfl rfl rfl rfl rfl (Nat.le_of_ble_eq_true rfl) (Nat.le_of_ble_eq_true rfl) (Nat.le_of_ble_eq_true rfl) (c_Min _ _ _) rfl (fun v2 w2 h4z => ?_)
  obtain ⟨rfl, rfl⟩ := h4z
  refine zr_if_ne 12 10 rfl rfl (by decide) (fun c7z => ?_) (fun c7z => ?_)
  · replace c7z := zb_n0.mp c7z
    refine zr_aload_n 13 rfl rfl rfl trivial ?_
    refine zr_callv 16 (As := []) (u2 := (0, 0)) rfl rfl rfl rfl rfl rfl rfl (Nat.le_of_ble_eq_true rfl) (Nat.le_of_ble_eq_true rfl) (Nat.le_of_ble_eq_true rfl) rfl (c_Mtries h hK) rfl (fun v2 w2 h13z => ?_)
    obtain ⟨rfl, ξ1, rfl, f1, m1⟩ := h13z
    have r26 : ∀ j, j < K.M → ξ1 50 (26 + j) = zhd ((K.go 60).p j 5) := fun j hj => by
      have q := m1.k5 (i := j) hj
      rw [zun (by decide)] at q
      rw [show 26 + j = 19 + (7 + j) by omega]
      exact q
    have em : ξ1 42 4 = nI K.M := by
      have q := m1.hm
      rw [zu_ne (Or.inr (by decide))] at q
      exact q
    have hK6 := hK.go (E := 60) ht60 (Nat.le_refl _)
    have key : ∀ (k : Nat) (j : Nat) (q : Int32), K.M - j = k → j ≤ K.M → q = zcntF (fun i => (K.go 60).p i 5 = x) j →  Zw S (Zc S (d + 7)) 6 false 1 zk_X6_heap (fun r w => ∃ ξ2, w = zWof n ξ2 ρ ∧ r = some (.int (K.heap x)) ∧ zft ξ ξ2) (20, [some (.ref 42), some (.int x), some (.int q), some (.int (nI j))], [], (0, 0), zWof n ξ1 ρ) := by
      intro k
      induction k using Nat.strongRecOn with
      | ind k ih =>
        intro j q hk hj hq
        refine zr_iload_n 21 rfl rfl rfl ?_
        refine zr_aload_n 22 rfl rfl rfl trivial ?_
        refine zr_getf 25 rfl rfl rfl rfl rfl ?_
        refine zr_icmp_ge 55 28 rfl rfl (by decide) (fun c25z => ?_) (fun c25z => ?_)
        · rw [em, nI_leI (by omega) (by omega)] at c25z
          refine zr_iload_n 56 rfl rfl rfl ?_
          refine zr_iret rfl rfl ?_
          refine ⟨ξ1, rfl, ?_, f1⟩
          rw [show K.heap x = _ from if_pos ((zle1 (M := 60) (by decide)).mp c7z), hq, show j = K.M by omega]
        · rw [em, nI_leI (by omega) (by omega)] at c25z
          have r0 := r26 j (by omega)
          have r9 := hK6.h9 (i := j) (show j < K.M by omega)
          refine zr_iload_n 29 rfl rfl rfl ?_
          refine zr_aload_n 30 rfl rfl rfl trivial ?_
          refine zr_getf 33 rfl rfl rfl rfl rfl ?_
          refine zr_bipush 35 (x := 26) rfl rfl (by decide) ?_
          refine zr_iload_n 36 rfl rfl rfl ?_
          refine zr_iadd 37 rfl rfl ?_
          rw [show (26 : Int32) + nI j = nI (26 + j) from nI_add 26 j]
          refine zr_iald 38 rfl rfl rfl (nI_clamp (by omega)) (vp_in_nI (by omega) (by omega)) ?_
          refine zr_iload_n 39 rfl rfl rfl ?_
          refine zr_icmp_ne 46 42 rfl rfl (by decide) (fun c39z => ?_) (fun c39z => ?_)
          · refine zr_iconst 47 (x := 0) rfl rfl (by decide) ?_
            refine zr_iadd 48 rfl rfl ?_
            refine zr_istore_n 49 (L2 := [_, _, _, _]) rfl rfl (Nat.le_of_ble_eq_true rfl) (by first | exact trivial | exact rfl) rfl ?_
            refine zr_iinc 52 (c0 := 1) (L2 := [_, _, _, _]) rfl rfl rfl (by first | exact trivial | exact rfl) (by decide) rfl ?_
            refine zr_goto 20 rfl (by decide) ?_
            rw [nI_1]
            refine ih _ (by omega) (j + 1) _ rfl (by omega) ?_
            unfold zcntF
            rw [if_neg (fun q => c39z (by rw [r0, q, zhd, if_neg (zneg9 c7z.1)])), hq, Int32.add_zero]
          · refine zr_iconst 43 (x := 1) rfl rfl (by decide) ?_
            refine zr_goto 47 rfl (by decide) ?_
            refine zr_iadd 48 rfl rfl ?_
            refine zr_istore_n 49 (L2 := [_, _, _, _]) rfl rfl (Nat.le_of_ble_eq_true rfl) (by first | exact trivial | exact rfl) rfl ?_
            refine zr_iinc 52 (c0 := 1) (L2 := [_, _, _, _]) rfl rfl rfl (by first | exact trivial | exact rfl) (by decide) rfl ?_
            refine zr_goto 20 rfl (by decide) ?_
            rw [nI_1]
            refine ih _ (by omega) (j + 1) _ rfl (by omega) ?_
            unfold zcntF
            rw [if_pos, hq]
            rw [r0] at c39z
            unfold zhd at c39z
            by_cases q : (K.go 60).p j 5 = -9
            · rw [if_pos q] at c39z
              exact absurd c7z.1 (by rw [← c39z]; decide)
            · rw [if_neg q] at c39z
              exact c39z
    refine zr_iconst 17 (x := 0) rfl rfl (by decide) ?_
    refine zr_istore_n 18 (L2 := [_, _, _, _]) rfl rfl (Nat.le_of_ble_eq_true rfl) (by first | exact trivial | exact rfl) rfl ?_
    refine zr_iconst 19 (x := 0) rfl rfl (by decide) ?_
    refine zr_istore_n 20 (L2 := [_, _, _, _]) rfl rfl (Nat.le_of_ble_eq_true rfl) (by first | exact trivial | exact rfl) rfl ?_
    exact key _ 0 0 rfl (Nat.zero_le _) rfl
  · replace c7z := zb_0.mp c7z
    refine zr_iconst 11 (x := (-1)) rfl rfl (by decide) ?_
    refine zr_iret rfl rfl ?_
    refine ⟨ξ, rfl, ?_, zft.rf _⟩
    rw [show K.heap x = -1 from if_neg (fun q => c7z ((zle1 (M := 60) (by decide)).mpr q))]
set_option maxRecDepth 20000 in
set_option maxHeartbeats 1000000 in
theorem c_Mwhen {S : Nat × (Nat → Int32)} {d n : Nat} {ξ : Nat → Nat → Int32} {ρ : zRho} {K : zCs} (h : zMR ξ 0 K) (hK : zOK K) (x : Int32) : Zc S (d + 8) jX6_when [.ref 42, .int x] (zWof n ξ ρ) (fun r w => ∃ ξ2, w = zWof n ξ2 ρ ∧ r = some (.int (zper K x K.wn)) ∧ zft ξ ξ2) := by
  have hd3 := hK.d3
  have hm6 := hK.m6
  have ht60 := hK.t60
  refine Zc_in (q := (6, 0, 1, 1, 3, 0, 0, zk_X6_when)) rfl (Nat.le_of_ble_eq_true rfl) (L := [_, _, _]) rfl ?_
  refine zr_aload_n 1 rfl rfl rfl trivial ?_
  refine zr_iload_n 2 rfl rfl rfl ?_
  refine zr_callv 5 (As := [_]) (u2 := (0, 0)) rfl rfl rfl rfl rfl rfl rfl (Nat.le_of_ble_eq_true rfl) (Nat.le_of_ble_eq_true rfl) (Nat.le_of_ble_eq_true rfl) rfl (c_MisPerson h hK _) rfl (fun v2 w2 h2z => ?_)
  obtain ⟨rfl, rfl⟩ := h2z
  refine zr_if_ne 10 8 rfl rfl (by decide) (fun c5z => ?_) (fun c5z => ?_)
  · replace c5z := zb_n0.mp c5z
    obtain ⟨i, hi, rfl⟩ := zperI rfl (by omega) c5z
    refine zr_aload_n 11 rfl rfl rfl trivial ?_
    refine zr_callv 14 (As := []) (u2 := (0, 0)) rfl rfl rfl rfl rfl rfl rfl (Nat.le_of_ble_eq_true rfl) (Nat.le_of_ble_eq_true rfl) (Nat.le_of_ble_eq_true rfl) rfl (c_Mtries h hK) rfl (fun v2 w2 h11z => ?_)
    obtain ⟨rfl, ξ1, rfl, f1, m1⟩ := h11z
    have r26 : ∀ j, j < K.M → ξ1 50 (26 + j) = zhd ((K.go 60).p j 5) := fun j hj => by
      have q := m1.k5 (i := j) hj
      rw [zun (by decide)] at q
      rw [show 26 + j = 19 + (7 + j) by omega]
      exact q
    have em : ξ1 42 4 = nI K.M := by
      have q := m1.hm
      rw [zu_ne (Or.inr (by decide))] at q
      exact q
    have hK6 := hK.go (E := 60) ht60 (Nat.le_refl _)
    have r0 := r26 i hi
    have r9 := hK6.h9 (i := i) hi
    refine zr_aload_n 15 rfl rfl rfl trivial ?_
    refine zr_getf 18 rfl rfl rfl rfl rfl ?_
    refine zr_bipush 20 (x := 26) rfl rfl (by decide) ?_
    refine zr_iload_n 21 rfl rfl rfl ?_
    refine zr_iadd 22 rfl rfl ?_
    rw [show (26 : Int32) + nI i = nI (26 + i) from nI_add 26 i]
    refine zr_iald 23 rfl rfl rfl (nI_clamp (by omega)) (vp_in_nI (by omega) (by omega)) ?_
    rw [r0]
    refine zr_istore_n 24 (L2 := [_, _, _]) rfl rfl (Nat.le_of_ble_eq_true rfl) (by first | exact trivial | exact rfl) rfl ?_
    refine zr_iload_n 25 rfl rfl rfl ?_
    refine zr_if_ge 33 28 rfl rfl (by decide) (fun c25z => ?_) (fun c25z => ?_)
    · refine zr_iload_n 34 rfl rfl rfl ?_
      refine zr_iret rfl rfl ?_
      refine ⟨ξ1, rfl, ?_, f1⟩
      rw [zper_in hm6 hi, zCs.wn]
      rw [if_neg ((zhd_neg r9).2.mp c25z), show zhd ((K.go 60).p i 5) = _ from if_neg ((zhd_neg r9).2.mp c25z)]
    · refine zr_bipush 30 (x := (-3)) rfl rfl (by decide) ?_
      refine zr_goto 34 rfl (by decide) ?_
      refine zr_iret rfl rfl ?_
      refine ⟨ξ1, rfl, ?_, f1⟩
      rw [zper_in hm6 hi, zCs.wn]
      rw [if_pos ((zhd_neg r9).1.mp (Int32.not_le.mp c25z))]
  · replace c5z := zb_0.mp c5z
    refine zr_iconst 9 (x := (-1)) rfl rfl (by decide) ?_
    refine zr_iret rfl rfl ?_
    refine ⟨ξ, rfl, ?_, zft.rf _⟩
    rw [zper_out rfl _ c5z]
set_option maxRecDepth 20000 in
set_option maxHeartbeats 1000000 in
theorem c_MmarkOf {S : Nat × (Nat → Int32)} {d n : Nat} {ξ : Nat → Nat → Int32} {ρ : zRho} {K : zCs} (h : zMR ξ 0 K) (hK : zOK K) (x : Int32) : Zc S (d + 9) jX6_markOf [.ref 42, .int x] (zWof n ξ ρ) (fun r w => ∃ ξ2, w = zWof n ξ2 ρ ∧ r = some (.int (zper K x K.mko)) ∧ zft ξ ξ2) := by
  have hd3 := hK.d3
  have hm6 := hK.m6
  have ht60 := hK.t60
  refine Zc_in (q := (6, 0, 1, 1, 3, 0, 0, zk_X6_markOf)) rfl (Nat.le_of_ble_eq_true rfl) (L := [_, _, _]) rfl ?_
  refine zr_aload_n 1 rfl rfl rfl trivial ?_
  refine zr_iload_n 2 rfl rfl rfl ?_
  refine zr_callv 5 (As := [_]) (u2 := (0, 0)) rfl rfl rfl rfl rfl rfl rfl (Nat.le_of_ble_eq_true rfl) (Nat.le_of_ble_eq_true rfl) (Nat.le_of_ble_eq_true rfl) rfl (c_MisPerson h hK _) rfl (fun v2 w2 h2z => ?_)
  obtain ⟨rfl, rfl⟩ := h2z
  refine zr_if_ne 10 8 rfl rfl (by decide) (fun c5z => ?_) (fun c5z => ?_)
  · replace c5z := zb_n0.mp c5z
    obtain ⟨i, hi, rfl⟩ := zperI rfl (by omega) c5z
    refine zr_aload_n 11 rfl rfl rfl trivial ?_
    refine zr_iload_n 12 rfl rfl rfl ?_
    refine zr_callv 15 (As := [_]) (u2 := (0, 0)) rfl rfl rfl rfl rfl rfl rfl (Nat.le_of_ble_eq_true rfl) (Nat.le_of_ble_eq_true rfl) (Nat.le_of_ble_eq_true rfl) rfl (c_MmarkThen h hK hi) rfl (fun v2 w2 h12z => ?_)
    obtain ⟨rfl, ξ1, rfl, f1⟩ := h12z
    refine zr_istore_n 16 (L2 := [_, _, _]) rfl rfl (Nat.le_of_ble_eq_true rfl) (by first | exact trivial | exact rfl) rfl ?_
    refine zr_iload_n 17 rfl rfl rfl ?_
    refine zr_if_ge 25 20 rfl rfl (by decide) (fun c17z => ?_) (fun c17z => ?_)
    · refine zr_iload_n 26 rfl rfl rfl ?_
      refine zr_iret rfl rfl ?_
      refine ⟨ξ1, rfl, ?_, f1⟩
      rw [zper_in hm6 hi, zCs.mko]
      rw [if_neg (Int32.not_lt.mpr c17z)]
    · refine zr_bipush 22 (x := (-3)) rfl rfl (by decide) ?_
      refine zr_goto 26 rfl (by decide) ?_
      refine zr_iret rfl rfl ?_
      refine ⟨ξ1, rfl, ?_, f1⟩
      rw [zper_in hm6 hi, zCs.mko]
      rw [if_pos (Int32.not_le.mp c17z)]
  · replace c5z := zb_0.mp c5z
    refine zr_iconst 9 (x := (-1)) rfl rfl (by decide) ?_
    refine zr_iret rfl rfl ?_
    refine ⟨ξ, rfl, ?_, zft.rf _⟩
    rw [zper_out rfl _ c5z]
set_option maxRecDepth 20000 in
set_option maxHeartbeats 1000000 in
theorem c_Mlate {S : Nat × (Nat → Int32)} {d n : Nat} {ξ : Nat → Nat → Int32} {ρ : zRho} {K : zCs} (h : zMR ξ 0 K) (hK : zOK K) : Zc S (d + 8) jX6_late [.ref 42] (zWof n ξ ρ) (fun r w => ∃ ξ2, w = zWof n ξ2 ρ ∧ r = some (.int ((K.go 60).lts)) ∧ zft ξ ξ2) := by
  have hd3 := hK.d3
  have hm6 := hK.m6
  have ht60 := hK.t60
  refine Zc_in (q := (6, 0, 1, 0, 4, 0, 0, zk_X6_late)) rfl (Nat.le_of_ble_eq_true rfl) (L := [_, _, _, _]) rfl ?_
  refine zr_aload_n 1 rfl rfl rfl trivial ?_
  refine zr_callv 4 (As := []) (u2 := (0, 0)) rfl rfl rfl rfl rfl rfl rfl (Nat.le_of_ble_eq_true rfl) (Nat.le_of_ble_eq_true rfl) (Nat.le_of_ble_eq_true rfl) rfl (c_Mtries h hK) rfl (fun v2 w2 h1z => ?_)
  obtain ⟨rfl, ξ1, rfl, f1, m1⟩ := h1z
  have r26 : ∀ j, j < K.M → ξ1 50 (26 + j) = zhd ((K.go 60).p j 5) := fun j hj => by
    have q := m1.k5 (i := j) hj
    rw [zun (by decide)] at q
    rw [show 26 + j = 19 + (7 + j) by omega]
    exact q
  have em : ξ1 42 4 = nI K.M := by
    have q := m1.hm
    rw [zu_ne (Or.inr (by decide))] at q
    exact q
  have hK6 := hK.go (E := 60) ht60 (Nat.le_refl _)
  have e43 : ξ1 43 0 = K.law 0 := by
    rw [f1.1 43 (by decide) (by decide)]
    exact h.hl 0 (by decide)
  have key : ∀ (k : Nat) (j : Nat) (q : Int32), K.M - j = k → j ≤ K.M → q = zorF (fun i => (K.go 60).p i 5 = -9 ∨ K.law 0 < (K.go 60).p i 5) j →  Zw S (Zc S (d + 7)) 6 false 1 zk_X6_late (fun r w => ∃ ξ2, w = zWof n ξ2 ρ ∧ r = some (.int ((K.go 60).lts)) ∧ zft ξ ξ2) (8, [some (.ref 42), some (.int q), some (.int (nI j)), none], [], (0, 0), zWof n ξ1 ρ) := by
    intro k
    induction k using Nat.strongRecOn with
    | ind k ih =>
      intro j q hk hj hq
      refine zr_iload_n 9 rfl rfl rfl ?_
      refine zr_aload_n 10 rfl rfl rfl trivial ?_
      refine zr_getf 13 rfl rfl rfl rfl rfl ?_
      refine zr_icmp_ge 56 16 rfl rfl (by decide) (fun c13z => ?_) (fun c13z => ?_)
      · rw [em, nI_leI (by omega) (by omega)] at c13z
        refine zr_iload_n 57 rfl rfl rfl ?_
        refine zr_iret rfl rfl ?_
        refine ⟨ξ1, rfl, ?_, f1⟩
        rw [hq, show j = K.M by omega]
        rfl
      · rw [em, nI_leI (by omega) (by omega)] at c13z
        have r0 := r26 j (by omega)
        have r9 := hK6.h9 (i := j) (show j < K.M by omega)
        refine zr_aload_n 17 rfl rfl rfl trivial ?_
        refine zr_getf 20 rfl rfl rfl rfl rfl ?_
        refine zr_bipush 22 (x := 26) rfl rfl (by decide) ?_
        refine zr_iload_n 23 rfl rfl rfl ?_
        refine zr_iadd 24 rfl rfl ?_
        rw [show (26 : Int32) + nI j = nI (26 + j) from nI_add 26 j]
        refine zr_iald 25 rfl rfl rfl (nI_clamp (by omega)) (vp_in_nI (by omega) (by omega)) ?_
        rw [r0]
        refine zr_istore_n 26 (L2 := [_, _, _, _]) rfl rfl (Nat.le_of_ble_eq_true rfl) (by first | exact trivial | exact rfl) rfl ?_
        refine zr_iload_n 27 rfl rfl rfl ?_
        refine zr_iload_n 28 rfl rfl rfl ?_
        refine zr_if_lt 41 31 rfl rfl (by decide) (fun c28z => ?_) (fun c28z => ?_)
        · refine zr_iconst 42 (x := 1) rfl rfl (by decide) ?_
          refine zr_iload_n 43 rfl rfl rfl ?_
          refine zr_ishl 44 rfl rfl ?_
          refine zr_goto 48 rfl (by decide) ?_
          refine zr_ior 49 rfl rfl ?_
          refine zr_istore_n 50 (L2 := [_, _, _, _]) rfl rfl (Nat.le_of_ble_eq_true rfl) (by first | exact trivial | exact rfl) rfl ?_
          refine zr_iinc 53 (c0 := 1) (L2 := [_, _, _, _]) rfl rfl rfl (by first | exact trivial | exact rfl) (by decide) rfl ?_
          refine zr_goto 8 rfl (by decide) ?_
          rw [nI_1]
          refine zs_forget (L' := [some (.ref 42), some (.int _), some (.int (nI (j + 1))), none]) (zsub_s (zsub_s (zsub_s (zsub_n zsub_0)))) ?_
          refine ih _ (by omega) (j + 1) _ rfl (by omega) ?_
          unfold zorF
          rw [if_pos (Or.inl ((zhd_neg r9).1.mp c28z)), hq]
        · refine zr_iload_n 32 rfl rfl rfl ?_
          refine zr_aload_n 33 rfl rfl rfl trivial ?_
          refine zr_getf 36 rfl rfl rfl rfl rfl ?_
          refine zr_iconst 37 (x := 0) rfl rfl (by decide) ?_
          refine zr_iald 38 (i := 0) rfl rfl rfl (by decide) (by unfold vp_in; decide) ?_
          rw [e43]
          refine zr_icmp_le 47 41 rfl rfl (by decide) (fun c38z => ?_) (fun c38z => ?_)
          · refine zr_iconst 48 (x := 0) rfl rfl (by decide) ?_
            refine zr_ior 49 rfl rfl ?_
            refine zr_istore_n 50 (L2 := [_, _, _, _]) rfl rfl (Nat.le_of_ble_eq_true rfl) (by first | exact trivial | exact rfl) rfl ?_
            refine zr_iinc 53 (c0 := 1) (L2 := [_, _, _, _]) rfl rfl rfl (by first | exact trivial | exact rfl) (by decide) rfl ?_
            refine zr_goto 8 rfl (by decide) ?_
            rw [nI_1]
            refine zs_forget (L' := [some (.ref 42), some (.int _), some (.int (nI (j + 1))), none]) (zsub_s (zsub_s (zsub_s (zsub_n zsub_0)))) ?_
            refine ih _ (by omega) (j + 1) _ rfl (by omega) ?_
            unfold zorF
            have n9 := (zhd_neg r9).2.mp (Int32.not_lt.mp c28z)
            rw [show zhd ((K.go 60).p j 5) = _ from if_neg n9] at c38z
            rw [if_neg (fun z => z.elim n9 (fun z => absurd c38z (Int32.not_le.mpr z))), hq, Int32.or_zero]
          · refine zr_iconst 42 (x := 1) rfl rfl (by decide) ?_
            refine zr_iload_n 43 rfl rfl rfl ?_
            refine zr_ishl 44 rfl rfl ?_
            refine zr_goto 48 rfl (by decide) ?_
            refine zr_ior 49 rfl rfl ?_
            refine zr_istore_n 50 (L2 := [_, _, _, _]) rfl rfl (Nat.le_of_ble_eq_true rfl) (by first | exact trivial | exact rfl) rfl ?_
            refine zr_iinc 53 (c0 := 1) (L2 := [_, _, _, _]) rfl rfl rfl (by first | exact trivial | exact rfl) (by decide) rfl ?_
            refine zr_goto 8 rfl (by decide) ?_
            rw [nI_1]
            refine zs_forget (L' := [some (.ref 42), some (.int _), some (.int (nI (j + 1))), none]) (zsub_s (zsub_s (zsub_s (zsub_n zsub_0)))) ?_
            refine ih _ (by omega) (j + 1) _ rfl (by omega) ?_
            unfold zorF
            have n9 := (zhd_neg r9).2.mp (Int32.not_lt.mp c28z)
            rw [show zhd ((K.go 60).p j 5) = _ from if_neg n9] at c38z
            rw [if_pos (Or.inr (Int32.not_le.mp c38z)), hq]
  refine zr_iconst 5 (x := 0) rfl rfl (by decide) ?_
  refine zr_istore_n 6 (L2 := [_, _, _, _]) rfl rfl (Nat.le_of_ble_eq_true rfl) (by first | exact trivial | exact rfl) rfl ?_
  refine zr_iconst 7 (x := 0) rfl rfl (by decide) ?_
  refine zr_istore_n 8 (L2 := [_, _, _, _]) rfl rfl (Nat.le_of_ble_eq_true rfl) (by first | exact trivial | exact rfl) rfl ?_
  exact key _ 0 0 rfl (Nat.zero_le _) rfl
set_option maxRecDepth 20000 in
set_option maxHeartbeats 1000000 in
theorem c_Mmarks {S : Nat × (Nat → Int32)} {d n : Nat} {ξ : Nat → Nat → Int32} {ρ : zRho} {K : zCs} (h : zMR ξ 0 K) (hK : zOK K) : Zc S (d + 8) jX6_marks [.ref 42] (zWof n ξ ρ) (fun r w => ∃ ξ2, w = zWof n ξ2 ρ ∧ r = some (.int ((K.go 60).sum)) ∧ zft ξ ξ2) := by
  have hd3 := hK.d3
  have hm6 := hK.m6
  have ht60 := hK.t60
  refine Zc_in (q := (6, 0, 1, 0, 4, 0, 0, zk_X6_marks)) rfl (Nat.le_of_ble_eq_true rfl) (L := [_, _, _, _]) rfl ?_
  refine zr_aload_n 1 rfl rfl rfl trivial ?_
  refine zr_callv 4 (As := []) (u2 := (0, 0)) rfl rfl rfl rfl rfl rfl rfl (Nat.le_of_ble_eq_true rfl) (Nat.le_of_ble_eq_true rfl) (Nat.le_of_ble_eq_true rfl) rfl (c_Mtries h hK) rfl (fun v2 w2 h1z => ?_)
  obtain ⟨rfl, ξ1, rfl, f1, m1⟩ := h1z
  have hK6 := hK.go (E := 60) ht60 (Nat.le_refl _)
  have em : zu ξ1 42 10 19 42 4 = nI K.M := m1.hm
  have key : ∀ (k : Nat) (j : Nat) (q : Int32), K.M - j = k → j ≤ K.M → q = zsumF (fun i => zpos0 ((K.go 60).mk' i)) j →  Zw S (Zc S (d + 7)) 6 false 1 zk_X6_marks (fun r w => ∃ ξ2, w = zWof n ξ2 ρ ∧ r = some (.int ((K.go 60).sum)) ∧ zft ξ ξ2) (14, [some (.ref 42), some (.int q), some (.int (nI j)), none], [], (0, 0), zWof n (zu ξ1 42 10 19) ρ) := by
    intro k
    induction k using Nat.strongRecOn with
    | ind k ih =>
      intro j q hk hj hq
      refine zr_iload_n 15 rfl rfl rfl ?_
      refine zr_aload_n 16 rfl rfl rfl trivial ?_
      refine zr_getf 19 rfl rfl rfl rfl rfl ?_
      refine zr_icmp_ge 46 22 rfl rfl (by decide) (fun c19z => ?_) (fun c19z => ?_)
      · rw [em, nI_leI (by omega) (by omega)] at c19z
        refine zr_aload_n 47 rfl rfl rfl trivial ?_
        refine zr_iconst 48 (x := 0) rfl rfl (by decide) ?_
        refine zr_putf 51 rfl rfl rfl rfl (Nat.le_of_ble_eq_true rfl) rfl trivial (fun h => by cases h) (zW_set (k := 10) rfl) ?_
        refine zr_iload_n 52 rfl rfl rfl ?_
        refine zr_iret rfl rfl ?_
        refine ⟨_, rfl, ?_, f1.at2 h.ha 19⟩
        rw [hq, show j = K.M by omega]
        rfl
      · rw [em, nI_leI (by omega) (by omega)] at c19z
        refine zr_aload_n 23 rfl rfl rfl trivial ?_
        refine zr_iload_n 24 rfl rfl rfl ?_
        refine zr_callv 27 (As := [_]) (u2 := (0, 0)) rfl rfl rfl rfl rfl rfl rfl (Nat.le_of_ble_eq_true rfl) (Nat.le_of_ble_eq_true rfl) (Nat.le_of_ble_eq_true rfl) rfl (c_Mmark m1 hK6 (show j < K.M by omega)) rfl (fun v2 w2 h24z => ?_)
        obtain ⟨rfl, rfl⟩ := h24z
        refine zr_istore_n 28 (L2 := [_, _, _, _]) rfl rfl (Nat.le_of_ble_eq_true rfl) (by first | exact trivial | exact rfl) rfl ?_
        refine zr_iload_n 29 rfl rfl rfl ?_
        refine zr_iload_n 30 rfl rfl rfl ?_
        refine zr_if_ge 37 33 rfl rfl (by decide) (fun c30z => ?_) (fun c30z => ?_)
        · refine zr_iload_n 38 rfl rfl rfl ?_
          refine zr_iadd 39 rfl rfl ?_
          refine zr_istore_n 40 (L2 := [_, _, _, _]) rfl rfl (Nat.le_of_ble_eq_true rfl) (by first | exact trivial | exact rfl) rfl ?_
          refine zr_iinc 43 (c0 := 1) (L2 := [_, _, _, _]) rfl rfl rfl (by first | exact trivial | exact rfl) (by decide) rfl ?_
          refine zr_goto 14 rfl (by decide) ?_
          rw [nI_1]
          refine zs_forget (L' := [some (.ref 42), some (.int _), some (.int (nI (j + 1))), none]) (zsub_s (zsub_s (zsub_s (zsub_n zsub_0)))) ?_
          refine ih _ (by omega) (j + 1) _ rfl (by omega) ?_
          unfold zsumF zpos0
          rw [hq]
          by_cases z : 0 < (K.go 60).mk' j
          · rw [if_pos z]
            rfl
          · rw [if_neg z, Int32.le_antisymm (Int32.not_lt.mp z) c30z]
            rfl
        · refine zr_iconst 34 (x := 0) rfl rfl (by decide) ?_
          refine zr_goto 38 rfl (by decide) ?_
          refine zr_iadd 39 rfl rfl ?_
          refine zr_istore_n 40 (L2 := [_, _, _, _]) rfl rfl (Nat.le_of_ble_eq_true rfl) (by first | exact trivial | exact rfl) rfl ?_
          refine zr_iinc 43 (c0 := 1) (L2 := [_, _, _, _]) rfl rfl rfl (by first | exact trivial | exact rfl) (by decide) rfl ?_
          refine zr_goto 14 rfl (by decide) ?_
          rw [nI_1]
          refine zs_forget (L' := [some (.ref 42), some (.int _), some (.int (nI (j + 1))), none]) (zsub_s (zsub_s (zsub_s (zsub_n zsub_0)))) ?_
          refine ih _ (by omega) (j + 1) _ rfl (by omega) ?_
          unfold zsumF zpos0
          rw [hq, if_neg (fun z => c30z (Int32.le_of_lt z))]
          rfl
  refine zr_iconst 5 (x := 0) rfl rfl (by decide) ?_
  refine zr_istore_n 6 (L2 := [_, _, _, _]) rfl rfl (Nat.le_of_ble_eq_true rfl) (by first | exact trivial | exact rfl) rfl ?_
  refine zr_aload_n 7 rfl rfl rfl trivial ?_
  refine zr_bipush 9 (x := 19) rfl rfl (by decide) ?_
  refine zr_putf 12 rfl rfl rfl rfl (Nat.le_of_ble_eq_true rfl) rfl trivial (fun h => by cases h) (zW_set (k := 10) rfl) ?_
  refine zr_iconst 13 (x := 0) rfl rfl (by decide) ?_
  refine zr_istore_n 14 (L2 := [_, _, _, _]) rfl rfl (Nat.le_of_ble_eq_true rfl) (by first | exact trivial | exact rfl) rfl ?_
  exact key _ 0 0 rfl (Nat.zero_le _) rfl
