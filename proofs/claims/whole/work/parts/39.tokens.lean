def zskip (tb : Nat → Int32) : Nat → Nat → Nat
  | 0, p => p
  | n + 1, p => if tb p = 32 then zskip tb n (p + 1) else p
def zsrt (b : Int32) : Int32 := if 97 ≤ b ∧ b ≤ 122 then 1 else if 48 ≤ b ∧ b ≤ 57 then 2 else 3
def zrun (tb : Nat → Int32) (s : Int32) : Nat → Nat → Nat
  | 0, p => p
  | n + 1, p => if zsrt (tb p) = s then zrun tb s n (p + 1) else p
abbrev zTk : Type := Nat × Nat × Int32
def zso (tb : Nat → Int32) (L st : Nat) : Int32 := if st < L then zsrt (tb st) else 0
def zen2 (tb : Nat → Int32) (L st : Nat) : Nat := if zso tb L st = 3 then st + 1 else zrun tb (zso tb L st) (L - st) st
def ztok (tb : Nat → Int32) (L e : Nat) : zTk := (zskip tb (L - e) e, zen2 tb L (zskip tb (L - e) e), zso tb L (zskip tb (L - e) e))
theorem zskip_le (tb : Nat → Int32) : ∀ n p, p ≤ zskip tb n p ∧ zskip tb n p ≤ p + n
  | 0, p => ⟨Nat.le_refl _, Nat.le_refl _⟩
  | n + 1, p => by
    unfold zskip
    have := zskip_le tb n (p + 1)
    split <;> omega
theorem zrun_le (tb : Nat → Int32) (s : Int32) : ∀ n p, p ≤ zrun tb s n p ∧ zrun tb s n p ≤ p + n
  | 0, p => ⟨Nat.le_refl _, Nat.le_refl _⟩
  | n + 1, p => by
    unfold zrun
    have := zrun_le tb s n (p + 1)
    split <;> omega
theorem zrun_in (tb : Nat → Int32) (s : Int32) : ∀ n p i, p ≤ i → i < zrun tb s n p → zsrt (tb i) = s
  | 0, p, i, h1, h2 => by
    unfold zrun at h2
    omega
  | n + 1, p, i, h1, h2 => by
    unfold zrun at h2
    by_cases q : zsrt (tb p) = s
    · rw [if_pos q] at h2
      by_cases e : i = p
      · rw [e]; exact q
      · exact zrun_in tb s n (p + 1) i (by omega) h2
    · rw [if_neg q] at h2
      omega
theorem zsrt_3 (b : Int32) : zsrt b = 1 ∨ zsrt b = 2 ∨ zsrt b = 3 := by
  unfold zsrt
  split
  · exact Or.inl rfl
  split
  · exact Or.inr (Or.inl rfl)
  · exact Or.inr (Or.inr rfl)
/-- what is known of a token -/
abbrev zTw (tb : Nat → Int32) (L : Nat) (t : zTk) : Prop := t.1 ≤ t.2.1 ∧ t.2.1 ≤ L ∧ ((t.2.2 = 0 ∧ t.1 = L) ∨ (t.1 < L ∧ t.2.2 = zsrt (tb t.1) ∧ t.1 < t.2.1 ∧ (t.2.2 = 3 → t.2.1 = t.1 + 1) ∧ (¬ t.2.2 = 3 → ∀ i, t.1 ≤ i → i < t.2.1 → zsrt (tb i) = t.2.2)))
theorem ztok_w (tb : Nat → Int32) {L e : Nat} (h : e ≤ L) : zTw tb L (ztok tb L e) ∧ e ≤ (ztok tb L e).1 := by
  have a := zskip_le tb (L - e) e
  unfold ztok
  generalize zskip tb (L - e) e = st at a
  show (st ≤ zen2 tb L st ∧ zen2 tb L st ≤ L ∧ ((zso tb L st = 0 ∧ st = L) ∨ (st < L ∧ zso tb L st = zsrt (tb st) ∧ st < zen2 tb L st ∧ (zso tb L st = 3 → zen2 tb L st = st + 1) ∧ (¬ zso tb L st = 3 → ∀ i, st ≤ i → i < zen2 tb L st → zsrt (tb i) = zso tb L st)))) ∧ e ≤ st
  refine ⟨?_, a.1⟩
  by_cases hst : st < L
  · have es : zso tb L st = zsrt (tb st) := if_pos hst
    unfold zen2
    rw [es]
    by_cases q : zsrt (tb st) = 3
    · rw [if_pos q]
      exact ⟨by omega, by omega, Or.inr ⟨hst, rfl, by omega, fun _ => rfl, fun z => absurd q z⟩⟩
    · rw [if_neg q]
      have b := zrun_le tb (zsrt (tb st)) (L - st) st
      have b2 : st < zrun tb (zsrt (tb st)) (L - st) st := by
        rw [show L - st = (L - st - 1) + 1 by omega, zrun, if_pos rfl]
        have := zrun_le tb (zsrt (tb st)) (L - st - 1) (st + 1)
        omega
      exact ⟨by omega, by omega, Or.inr ⟨hst, rfl, b2, fun z => absurd z q, fun _ i h1 h2 => zrun_in tb _ _ _ i h1 h2⟩⟩
  · have es : zso tb L st = 0 := if_neg hst
    have hL : st = L := by omega
    unfold zen2
    rw [es, if_neg (by decide), hL, Nat.sub_self]
    exact ⟨Nat.le_refl _, Nat.le_refl _, Or.inl ⟨rfl, rfl⟩⟩
abbrev zXP (ξ : Nat → Nat → Int32) (tb : Nat → Int32) (L : Nat) (t : zTk) : Prop := ξ 34 1 = nI L ∧ ξ 35 = tb ∧ ξ 34 3 = nI t.1 ∧ ξ 34 4 = nI t.2.1 ∧ ξ 34 5 = t.2.2 ∧ L ≤ 200 ∧ zTw tb L t
set_option maxRecDepth 20000 in
set_option maxHeartbeats 1000000 in
theorem c_sortOf {S : Nat × (Nat → Int32)} {d n : Nat} {ξ : Nat → Nat → Int32} {ρ : zRho} (b : Int32) : Zc S (d + 1) jX3_sortOf [.int b] (zWof n ξ ρ) (fun r w => r = some (.int (zsrt b)) ∧ w = zWof n ξ ρ) := by
  refine Zc_in (q := (3, 2, 1, 1, 1, 0, 0, zk_X3_sortOf)) rfl (Nat.le_of_ble_eq_true rfl) (L := [_]) rfl ?_
  refine zr_iload_n 1 rfl rfl rfl ?_
  refine zr_bipush 3 (x := 97) rfl rfl (by decide) ?_
  refine zr_icmp_lt 14 6 rfl rfl (by decide) (fun c3z => ?_) (fun c3z => ?_)
  · refine zr_iload_n 15 rfl rfl rfl ?_
    refine zr_bipush 17 (x := 48) rfl rfl (by decide) ?_
    refine zr_icmp_lt 30 20 rfl rfl (by decide) (fun c17z => ?_) (fun c17z => ?_)
    · refine zr_iconst 31 (x := 3) rfl rfl (by decide) ?_
      refine zr_iret rfl rfl ?_
      refine ⟨?_, rfl⟩
      unfold zsrt
      congr 2
      grind
    · refine zr_iload_n 21 rfl rfl rfl ?_
      refine zr_bipush 23 (x := 57) rfl rfl (by decide) ?_
      refine zr_icmp_gt 30 26 rfl rfl (by decide) (fun c23z => ?_) (fun c23z => ?_)
      · refine zr_iconst 31 (x := 3) rfl rfl (by decide) ?_
        refine zr_iret rfl rfl ?_
        refine ⟨?_, rfl⟩
        unfold zsrt
        congr 2
        grind
      · refine zr_iconst 27 (x := 2) rfl rfl (by decide) ?_
        refine zr_goto 31 rfl (by decide) ?_
        refine zr_iret rfl rfl ?_
        refine ⟨?_, rfl⟩
        unfold zsrt
        congr 2
        grind
  · refine zr_iload_n 7 rfl rfl rfl ?_
    refine zr_bipush 9 (x := 122) rfl rfl (by decide) ?_
    refine zr_icmp_gt 14 12 rfl rfl (by decide) (fun c9z => ?_) (fun c9z => ?_)
    · refine zr_iload_n 15 rfl rfl rfl ?_
      refine zr_bipush 17 (x := 48) rfl rfl (by decide) ?_
      refine zr_icmp_lt 30 20 rfl rfl (by decide) (fun c17z => ?_) (fun c17z => ?_)
      · refine zr_iconst 31 (x := 3) rfl rfl (by decide) ?_
        refine zr_iret rfl rfl ?_
        refine ⟨?_, rfl⟩
        unfold zsrt
        congr 2
        grind
      · refine zr_iload_n 21 rfl rfl rfl ?_
        refine zr_bipush 23 (x := 57) rfl rfl (by decide) ?_
        refine zr_icmp_gt 30 26 rfl rfl (by decide) (fun c23z => ?_) (fun c23z => ?_)
        · refine zr_iconst 31 (x := 3) rfl rfl (by decide) ?_
          refine zr_iret rfl rfl ?_
          refine ⟨?_, rfl⟩
          unfold zsrt
          congr 2
          grind
        · refine zr_iconst 27 (x := 2) rfl rfl (by decide) ?_
          refine zr_goto 31 rfl (by decide) ?_
          refine zr_iret rfl rfl ?_
          refine ⟨?_, rfl⟩
          unfold zsrt
          congr 2
          grind
    · refine zr_iconst 13 (x := 1) rfl rfl (by decide) ?_
      refine zr_iret rfl rfl ?_
      refine ⟨?_, rfl⟩
      unfold zsrt
      congr 2
      grind
set_option maxRecDepth 20000 in
set_option maxHeartbeats 1000000 in
theorem c_step {S : Nat × (Nat → Int32)} {d n : Nat} {ξ : Nat → Nat → Int32} {ρ : zRho} {tb : Nat → Int32} {L e : Nat} (h1 : ξ 34 1 = nI L) (h35 : ξ 35 = tb) (he : ξ 34 4 = nI e) (hL : L ≤ 200) (heL : e ≤ L) : Zc S (d + 2) jX3_step [.ref 34] (zWof n ξ ρ) (fun r w => r = none ∧ ∃ ξ2, w = zWof n ξ2 ρ ∧ zXP ξ2 tb L (ztok tb L e) ∧ ξ2 34 6 = ξ 34 6 ∧ ξ2 34 7 = ξ 34 7 ∧ ∀ b, b ≠ 34 → ξ2 b = ξ b) := by
  refine Zc_in (q := (3, 0, 0, 0, 1, 0, 0, zk_X3_step)) rfl (Nat.le_of_ble_eq_true rfl) (L := [_]) rfl ?_
  have key2 : ∀ (k : Nat) (p : Nat) (st : Nat) (ξ1 : Nat → Nat → Int32), L - p = k → zskip tb (L - e) e = st → ξ1 34 3 = nI st → ξ1 34 4 = nI p → ξ1 34 5 = zso tb L st → ¬ zso tb L st = 3 → p ≤ L → zrun tb (zso tb L st) (L - st) st = zrun tb (zso tb L st) (L - p) p → (∀ k, k ≠ 3 → k ≠ 4 → k ≠ 5 → ξ1 34 k = ξ 34 k) → (∀ b, b ≠ 34 → ξ1 b = ξ b) →  Zw S (Zc S (d + 1)) 3 false 0 zk_X3_step (fun r w => r = none ∧ ∃ ξ2, w = zWof n ξ2 ρ ∧ zXP ξ2 tb L (ztok tb L e) ∧ ξ2 34 6 = ξ 34 6 ∧ ξ2 34 7 = ξ 34 7 ∧ ∀ b, b ≠ 34 → ξ2 b = ξ b) (106, [some (.ref 34)], [], (0, 0), zWof n ξ1 ρ) := by
    intro k
    induction k using Nat.strongRecOn with
    | ind k ih =>
      intro p st ξ1 hk es e3 e4 e5 n3 hp ep fk fb
      have e1 : ξ1 34 1 = nI L := (fk 1 (by decide) (by decide) (by decide)).trans h1
      have e35 : ξ1 35 = tb := (fb 35 (by decide)).trans h35
      refine zr_aload_n 107 rfl rfl rfl trivial ?_
      refine zr_getf 110 rfl rfl rfl rfl rfl ?_
      refine zr_aload_n 111 rfl rfl rfl trivial ?_
      refine zr_getf 114 rfl rfl rfl rfl rfl ?_
      refine zr_icmp_ge 149 117 rfl rfl (by decide) (fun c114z => ?_) (fun c114z => ?_)
      · rw [e1, e4, nI_leI (by omega) (by omega)] at c114z
        refine zr_ret rfl rfl ?_
        have tk : ztok tb L e = (st, p, zso tb L st) := by
          unfold ztok
          rw [es]
          unfold zen2
          rw [if_neg n3, ep]
          rw [show L - p = 0 by omega]
          rfl
        refine ⟨rfl, ξ1, rfl, ⟨e1, e35, ?_, ?_, ?_, hL, (ztok_w tb heL).1⟩, fk 6 (by decide) (by decide) (by decide), fk 7 (by decide) (by decide) (by decide), fb⟩
        all_goals rw [tk]
        · exact e3
        · exact e4
        · exact e5
      · rw [e1, e4, nI_leI (by omega) (by omega)] at c114z
        refine zr_aload_n 118 rfl rfl rfl trivial ?_
        refine zr_getf 121 rfl rfl rfl rfl rfl ?_
        refine zr_aload_n 122 rfl rfl rfl trivial ?_
        refine zr_getf 125 rfl rfl rfl rfl rfl ?_
        rw [e4]
        refine zr_bald 126 rfl rfl rfl (nI_clamp (by omega)) (vp_in_nI (by omega) (by omega)) ?_
        refine zr_calls 129 (As := [_]) (u2 := (0, 0)) rfl rfl rfl rfl rfl rfl rfl (Nat.le_of_ble_eq_true rfl) (Nat.le_of_ble_eq_true rfl) (Nat.le_of_ble_eq_true rfl) (c_sortOf _) rfl (fun v2 w2 h126z => ?_)
        obtain ⟨rfl, rfl⟩ := h126z
        refine zr_aload_n 130 rfl rfl rfl trivial ?_
        refine zr_getf 133 rfl rfl rfl rfl rfl ?_
        refine zr_icmp_ne 149 136 rfl rfl (by decide) (fun c133z => ?_) (fun c133z => ?_)
        · rw [e35, e5] at c133z
          refine zr_ret rfl rfl ?_
          have tk : ztok tb L e = (st, p, zso tb L st) := by
            unfold ztok
            rw [es]
            unfold zen2
            rw [if_neg n3, ep]
            rw [show L - p = L - (p + 1) + 1 by omega, zrun, if_neg c133z]
          refine ⟨rfl, ξ1, rfl, ⟨e1, e35, ?_, ?_, ?_, hL, (ztok_w tb heL).1⟩, fk 6 (by decide) (by decide) (by decide), fk 7 (by decide) (by decide) (by decide), fb⟩
          all_goals rw [tk]
          · exact e3
          · exact e4
          · exact e5
        · rw [e35, e5] at c133z
          refine zr_aload_n 137 rfl rfl rfl trivial ?_
          refine zr_dup 138 rfl rfl rfl ?_
          refine zr_getf 141 rfl rfl rfl rfl rfl ?_
          refine zr_iconst 142 (x := 1) rfl rfl (by decide) ?_
          refine zr_iadd 143 rfl rfl ?_
          refine zr_putf 146 rfl rfl rfl rfl (Nat.le_of_ble_eq_true rfl) rfl trivial (fun h => by cases h) (zW_set (k := 4) rfl) ?_
          refine zr_goto 106 rfl (by decide) ?_
          refine ih _ (by omega) (p + 1) st _ rfl es ?_ ?_ ?_ n3 (by omega) ?_ (fun k k3 k4 k5 => ?_) (fun b hb => ?_)
          · rw [zu_ne (Or.inr (by decide))]; exact e3
          · rw [zu_same, e4, nI_1]
          · rw [zu_ne (Or.inr (by decide))]; exact e5
          · rw [ep, show L - p = L - (p + 1) + 1 by omega, zrun, if_pos c133z]
          · rw [zu_ne (Or.inr k4)]; exact fk k k3 k4 k5
          · rw [zun hb]; exact fb b hb
  have key85 : ∀ (p : Nat) (ξ1 : Nat → Nat → Int32) (so : Int32), ξ1 34 3 = nI p → p ≤ L → zskip tb (L - e) e = p → (∀ k, k ≠ 3 → k ≠ 4 → k ≠ 5 → ξ1 34 k = ξ 34 k) → (∀ b, b ≠ 34 → ξ1 b = ξ b) → so = zso tb L p →  Zw S (Zc S (d + 1)) 3 false 0 zk_X3_step (fun r w => r = none ∧ ∃ ξ2, w = zWof n ξ2 ρ ∧ zXP ξ2 tb L (ztok tb L e) ∧ ξ2 34 6 = ξ 34 6 ∧ ξ2 34 7 = ξ 34 7 ∧ ∀ b, b ≠ 34 → ξ2 b = ξ b) (85, [some (.ref 34)], [], (0, 0), zWof n (zu (zu ξ1 34 4 (nI p)) 34 5 so) ρ) := by
    intro p ξ1 so e3 hp es fk fb eso
    refine zr_aload_n 86 rfl rfl rfl trivial ?_
    refine zr_getf 89 rfl rfl rfl rfl rfl ?_
    refine zr_iconst 90 (x := 3) rfl rfl (by decide) ?_
    refine zr_icmp_ne 106 93 rfl rfl (by decide) (fun c90z => ?_) (fun c90z => ?_)
    · rw [zu_same, eso] at c90z
      refine key2 _ p p _ rfl es ?_ ?_ ?_ c90z hp rfl (fun k k3 k4 k5 => ?_) (fun b hb => ?_)
      · rw [zu_ne (Or.inr (by decide)), zu_ne (Or.inr (by decide))]; exact e3
      · rw [zu_ne (Or.inr (by decide)), zu_same]
      · rw [zu_same]; exact eso
      · rw [zu_ne (Or.inr k5), zu_ne (Or.inr k4)]; exact fk k k3 k4 k5
      · rw [zun hb, zun hb]; exact fb b hb
    · rw [zu_same, eso] at c90z
      refine zr_aload_n 94 rfl rfl rfl trivial ?_
      refine zr_dup 95 rfl rfl rfl ?_
      refine zr_getf 98 rfl rfl rfl rfl rfl ?_
      refine zr_iconst 99 (x := 1) rfl rfl (by decide) ?_
      refine zr_iadd 100 rfl rfl ?_
      refine zr_putf 103 rfl rfl rfl rfl (Nat.le_of_ble_eq_true rfl) rfl trivial (fun h => by cases h) (zW_set (k := 4) rfl) ?_
      refine zr_goto 149 rfl (by decide) ?_
      refine zr_ret rfl rfl ?_
      have tk : ztok tb L e = (p, p + 1, 3) := by
        unfold ztok
        rw [es]
        unfold zen2
        rw [if_pos c90z, c90z]
      refine ⟨rfl, _, rfl, ⟨?_, ?_, ?_, ?_, ?_, hL, (ztok_w tb heL).1⟩, ?_, ?_, fun b hb => ?_⟩
      all_goals (try rw [tk])
      · simp only [zu_eq]
        exact (fk 1 (by decide) (by decide) (by decide)).trans h1
      · rw [zun (by decide), zun (by decide), zun (by decide)]
        exact (fb 35 (by decide)).trans h35
      · simp [zu_eq, e3]
      · simp [zu_eq, e3, nI_1]
      · simp [zu_eq, eso, c90z]
      · simp only [zu_eq]
        exact fk 6 (by decide) (by decide) (by decide)
      · simp only [zu_eq]
        exact fk 7 (by decide) (by decide) (by decide)
      · rw [zun hb, zun hb, zun hb]
        exact fb b hb
  have key46 : ∀ (p : Nat) (ξ1 : Nat → Nat → Int32), ξ1 34 3 = nI p → p ≤ L → zskip tb (L - e) e = p → (∀ k, k ≠ 3 → k ≠ 4 → k ≠ 5 → ξ1 34 k = ξ 34 k) → (∀ b, b ≠ 34 → ξ1 b = ξ b) →  Zw S (Zc S (d + 1)) 3 false 0 zk_X3_step (fun r w => r = none ∧ ∃ ξ2, w = zWof n ξ2 ρ ∧ zXP ξ2 tb L (ztok tb L e) ∧ ξ2 34 6 = ξ 34 6 ∧ ξ2 34 7 = ξ 34 7 ∧ ∀ b, b ≠ 34 → ξ2 b = ξ b) (46, [some (.ref 34)], [], (0, 0), zWof n ξ1 ρ) := by
    intro p ξ1 e3 hp es fk fb
    have e1 : ξ1 34 1 = nI L := (fk 1 (by decide) (by decide) (by decide)).trans h1
    have e35 : ξ1 35 = tb := (fb 35 (by decide)).trans h35
    refine zr_aload_n 47 rfl rfl rfl trivial ?_
    refine zr_aload_n 48 rfl rfl rfl trivial ?_
    refine zr_getf 51 rfl rfl rfl rfl rfl ?_
    rw [e3]
    refine zr_putf 54 rfl rfl rfl rfl (Nat.le_of_ble_eq_true rfl) rfl trivial (fun h => by cases h) (zW_set (k := 4) rfl) ?_
    refine zr_aload_n 55 rfl rfl rfl trivial ?_
    refine zr_aload_n 56 rfl rfl rfl trivial ?_
    refine zr_getf 59 rfl rfl rfl rfl rfl ?_
    refine zr_aload_n 60 rfl rfl rfl trivial ?_
    refine zr_getf 63 rfl rfl rfl rfl rfl ?_
    refine zr_icmp_ge 81 66 rfl rfl (by decide) (fun c63z => ?_) (fun c63z => ?_)
    · rw [zu_ne (Or.inr (by decide)), zu_ne (Or.inr (by decide)), e1, e3, nI_leI (by omega) (by omega)] at c63z
      have eso : (0 : Int32) = zso tb L p := by
        unfold zso
        rw [if_neg (by omega)]
      refine zr_iconst 82 (x := 0) rfl rfl (by decide) ?_
      refine zr_putf 85 rfl rfl rfl rfl (Nat.le_of_ble_eq_true rfl) rfl trivial (fun h => by cases h) (zW_set (k := 5) rfl) ?_
      exact key85 p ξ1 _ e3 hp es fk fb eso
    · rw [zu_ne (Or.inr (by decide)), zu_ne (Or.inr (by decide)), e1, e3, nI_leI (by omega) (by omega)] at c63z
      have eso : zsrt (ξ1 35 p) = zso tb L p := by
        unfold zso
        rw [if_pos (by omega), e35]
      refine zr_aload_n 67 rfl rfl rfl trivial ?_
      refine zr_getf 70 rfl rfl rfl rfl rfl ?_
      refine zr_aload_n 71 rfl rfl rfl trivial ?_
      refine zr_getf 74 rfl rfl rfl rfl rfl ?_
      rw [zu_ne (Or.inr (by decide)), e3]
      refine zr_bald 75 rfl rfl rfl (nI_clamp (by omega)) (vp_in_nI (by omega) (by omega)) ?_
      refine zr_calls 78 (As := [_]) (u2 := (0, 0)) rfl rfl rfl rfl rfl rfl rfl (Nat.le_of_ble_eq_true rfl) (Nat.le_of_ble_eq_true rfl) (Nat.le_of_ble_eq_true rfl) (c_sortOf _) rfl (fun v2 w2 h75z => ?_)
      obtain ⟨rfl, rfl⟩ := h75z
      refine zr_goto 82 rfl (by decide) ?_
      refine zr_putf 85 rfl rfl rfl rfl (Nat.le_of_ble_eq_true rfl) rfl trivial (fun h => by cases h) (zW_set (k := 5) rfl) ?_
      exact key85 p ξ1 _ e3 hp es fk fb eso
  have key1 : ∀ (k : Nat) (p : Nat) (ξ1 : Nat → Nat → Int32), L - p = k → ξ1 34 3 = nI p → p ≤ L → zskip tb (L - e) e = zskip tb (L - p) p → (∀ k, k ≠ 3 → k ≠ 4 → k ≠ 5 → ξ1 34 k = ξ 34 k) → (∀ b, b ≠ 34 → ξ1 b = ξ b) →  Zw S (Zc S (d + 1)) 3 false 0 zk_X3_step (fun r w => r = none ∧ ∃ ξ2, w = zWof n ξ2 ρ ∧ zXP ξ2 tb L (ztok tb L e) ∧ ξ2 34 6 = ξ 34 6 ∧ ξ2 34 7 = ξ 34 7 ∧ ∀ b, b ≠ 34 → ξ2 b = ξ b) (8, [some (.ref 34)], [], (0, 0), zWof n ξ1 ρ) := by
    intro k
    induction k using Nat.strongRecOn with
    | ind k ih =>
      intro p ξ1 hk e3 hp ep fk fb
      have e1 : ξ1 34 1 = nI L := (fk 1 (by decide) (by decide) (by decide)).trans h1
      have e35 : ξ1 35 = tb := (fb 35 (by decide)).trans h35
      refine zr_aload_n 9 rfl rfl rfl trivial ?_
      refine zr_getf 12 rfl rfl rfl rfl rfl ?_
      refine zr_aload_n 13 rfl rfl rfl trivial ?_
      refine zr_getf 16 rfl rfl rfl rfl rfl ?_
      refine zr_icmp_ge 46 19 rfl rfl (by decide) (fun c16z => ?_) (fun c16z => ?_)
      · rw [e1, e3, nI_leI (by omega) (by omega)] at c16z
        exact key46 p ξ1 e3 hp (by rw [ep, show L - p = 0 by omega]; rfl) fk fb
      · rw [e1, e3, nI_leI (by omega) (by omega)] at c16z
        refine zr_aload_n 20 rfl rfl rfl trivial ?_
        refine zr_getf 23 rfl rfl rfl rfl rfl ?_
        refine zr_aload_n 24 rfl rfl rfl trivial ?_
        refine zr_getf 27 rfl rfl rfl rfl rfl ?_
        rw [e3]
        refine zr_bald 28 rfl rfl rfl (nI_clamp (by omega)) (vp_in_nI (by omega) (by omega)) ?_
        refine zr_bipush 30 (x := 32) rfl rfl (by decide) ?_
        refine zr_icmp_ne 46 33 rfl rfl (by decide) (fun c30z => ?_) (fun c30z => ?_)
        · rw [e35] at c30z
          exact key46 p ξ1 e3 hp (by rw [ep, show L - p = L - (p + 1) + 1 by omega, zskip, if_neg c30z]) fk fb
        · rw [e35] at c30z
          refine zr_aload_n 34 rfl rfl rfl trivial ?_
          refine zr_dup 35 rfl rfl rfl ?_
          refine zr_getf 38 rfl rfl rfl rfl rfl ?_
          refine zr_iconst 39 (x := 1) rfl rfl (by decide) ?_
          refine zr_iadd 40 rfl rfl ?_
          refine zr_putf 43 rfl rfl rfl rfl (Nat.le_of_ble_eq_true rfl) rfl trivial (fun h => by cases h) (zW_set (k := 3) rfl) ?_
          refine zr_goto 8 rfl (by decide) ?_
          refine ih _ (by omega) (p + 1) _ rfl ?_ (by omega) ?_ (fun k k3 k4 k5 => ?_) (fun b hb => ?_)
          · rw [zu_same, e3, nI_1]
          · rw [ep, show L - p = L - (p + 1) + 1 by omega, zskip, if_pos c30z]
          · rw [zu_ne (Or.inr k3)]; exact fk k k3 k4 k5
          · rw [zun hb]; exact fb b hb
  refine zr_aload_n 1 rfl rfl rfl trivial ?_
  refine zr_aload_n 2 rfl rfl rfl trivial ?_
  refine zr_getf 5 rfl rfl rfl rfl rfl ?_
  refine zr_putf 8 rfl rfl rfl rfl (Nat.le_of_ble_eq_true rfl) rfl trivial (fun h => by cases h) (zW_set (k := 3) rfl) ?_
  refine key1 _ e _ rfl ?_ heL rfl (fun k k3 k4 k5 => zu_ne (Or.inr k3)) (fun b hb => zun hb)
  rw [zu_same, he]
