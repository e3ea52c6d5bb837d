abbrev zBy (tb tu : Nat → Int32) (L : Nat) : Prop := ∀ k, k < L → 0 ≤ (tu k).toInt ∧ (tb k = tu k ∨ ((tb k).toInt < 0 ∧ 128 ≤ (tu k).toInt))
theorem zi97 : (97 : Int32).toInt = 97 := by decide
theorem zi122 : (122 : Int32).toInt = 122 := by decide
theorem zi48 : (48 : Int32).toInt = 48 := by decide
theorem zi57 : (57 : Int32).toInt = 57 := by decide
theorem zBy.eq {tb tu : Nat → Int32} {L k : Nat} (h : zBy tb tu L) (hk : k < L) {c : Int32} (hc : 0 ≤ c.toInt ∧ c.toInt ≤ 127) : tu k = c ↔ tb k = c := by
  rcases (h k hk).2 with e | ⟨a, b⟩
  · rw [e]
  · constructor
    · intro q
      rw [q] at b
      omega
    · intro q
      rw [q] at a
      omega
theorem zBy.let {tb tu : Nat → Int32} {L k : Nat} (h : zBy tb tu L) (hk : k < L) : (97 ≤ tu k ∧ tu k ≤ 122) ↔ (97 ≤ tb k ∧ tb k ≤ 122) := by
  rcases (h k hk).2 with e | ⟨a, b⟩
  · rw [e]
  · rw [Int32.le_iff_toInt_le, Int32.le_iff_toInt_le, Int32.le_iff_toInt_le, Int32.le_iff_toInt_le, zi97, zi122]
    omega
theorem zBy.dig {tb tu : Nat → Int32} {L k : Nat} (h : zBy tb tu L) (hk : k < L) : (48 ≤ tu k ∧ tu k ≤ 57) ↔ (48 ≤ tb k ∧ tb k ≤ 57) := by
  rcases (h k hk).2 with e | ⟨a, b⟩
  · rw [e]
  · rw [Int32.le_iff_toInt_le, Int32.le_iff_toInt_le, Int32.le_iff_toInt_le, Int32.le_iff_toInt_le, zi48, zi57]
    omega
theorem zBy.same {tb tu : Nat → Int32} {L k : Nat} (h : zBy tb tu L) (hk : k < L) (hp : 0 ≤ (tb k).toInt) : tu k = tb k := by
  rcases (h k hk).2 with e | ⟨a, b⟩
  · exact e.symm
  · omega
theorem zsrt_1 (b : Int32) : zsrt b = 1 ↔ (97 ≤ b ∧ b ≤ 122) := by
  unfold zsrt
  by_cases q : 97 ≤ b ∧ b ≤ 122
  · rw [if_pos q]
    exact ⟨fun _ => q, fun _ => rfl⟩
  · rw [if_neg q]
    by_cases q2 : 48 ≤ b ∧ b ≤ 57
    · rw [if_pos q2]
      exact ⟨fun z => absurd z (by decide), fun z => absurd z q⟩
    · rw [if_neg q2]
      exact ⟨fun z => absurd z (by decide), fun z => absurd z q⟩
theorem zsrt_2 (b : Int32) : zsrt b = 2 ↔ (48 ≤ b ∧ b ≤ 57) := by
  unfold zsrt
  by_cases q : 97 ≤ b ∧ b ≤ 122
  · rw [if_pos q]
    refine ⟨fun z => absurd z (by decide), fun z => ?_⟩
    have a1 := Int32.le_iff_toInt_le.mp q.1
    have a2 := Int32.le_iff_toInt_le.mp z.2
    rw [zi97] at a1
    rw [zi57] at a2
    omega
  · rw [if_neg q]
    by_cases q2 : 48 ≤ b ∧ b ≤ 57
    · rw [if_pos q2]
      exact ⟨fun _ => q2, fun _ => rfl⟩
    · rw [if_neg q2]
      exact ⟨fun z => absurd z (by decide), fun z => absurd z q2⟩
def zwF (tb : Nat → Int32) (s : Nat) : Nat → Int64
  | 0 => 0
  | n + 1 => if n < 8 then 27 * zwF tb s n + (tb (s + n)).toInt64 - 96 else -1
def zvF (tb : Nat → Int32) (s : Nat) : Nat → Int32
  | 0 => 0
  | n + 1 => if n < 2 then 10 * zvF tb s n + tb (s + n) - 48 else -1
theorem zvF_num (tb : Nat → Int32) (s : Nat) : ∀ n, zvF tb s n = if n ≤ 2 then zval tb n s 0 else -1
  | 0 => rfl
  | 1 => by
    rw [zvF, if_pos (by decide), if_pos (by decide), zvF, zval, zval, Int32.mul_comm, Nat.add_zero]
  | 2 => by
    rw [zvF, if_pos (by decide), if_pos (by decide), zvF, if_pos (by decide), zvF, zval, zval, zval, Int32.mul_comm 10 0, Int32.mul_comm 10, Nat.add_zero]
  | n + 3 => by
    rw [zvF, if_neg (by omega), if_neg (by omega)]
abbrev zfrP (ξ ξ2 : Nat → Nat → Int32) : Prop := (∀ b, b ≠ 42 → ξ2 b = ξ b) ∧ ∀ k, k ≠ 14 → k ≠ 15 → k ≠ 16 → k ≠ 18 → ξ2 42 k = ξ 42 k
theorem zfrP.u {ξ ξ1 : Nat → Nat → Int32} (f : zfrP ξ ξ1) (k : Nat) (v : Int32) (hk : k = 14 ∨ k = 15 ∨ k = 16 ∨ k = 18) : zfrP ξ (zu ξ1 42 k v) :=
  ⟨fun b hb => by rw [zun hb]; exact f.1 b hb, fun j h1 h2 h3 h4 => by rw [zu_ne (Or.inr (by omega))]; exact f.2 j h1 h2 h3 h4⟩
abbrev zMP (ξ : Nat → Nat → Int32) (wd : Int64) (tb tu : Nat → Int32) (L : Nat) (t : zTk) : Prop := ξ 42 13 = nI L ∧ ξ 51 = tu ∧ ξ 42 15 = nI t.1 ∧ ξ 42 16 = nI t.2.1 ∧ ξ 42 14 = t.2.2 ∧ L ≤ 200 ∧ zTw tb L t ∧ zBy tb tu L ∧ (t.2.2 = 1 → wd = zwF tb t.1 (t.2.1 - t.1)) ∧ (t.2.2 = 2 → ξ 42 18 = if t.2.1 - t.1 ≤ 2 then znum tb t else -1) ∧ (t.2.2 = 3 → ξ 42 18 = tu t.1)
theorem zrun_end {tb : Nat → Int32} {s : Int32} {L p : Nat} (h : p < L → ¬ zsrt (tb p) = s) : zrun tb s (L - p) p = p := by
  by_cases q : p < L
  · rw [show L - p = L - p - 1 + 1 by omega, zrun, if_neg (h q)]
  · rw [show L - p = 0 by omega, zrun]
theorem zrun_go {tb : Nat → Int32} {s : Int32} {L p : Nat} (h : p < L) (e : zsrt (tb p) = s) : zrun tb s (L - p) p = zrun tb s (L - (p + 1)) (p + 1) := by
  rw [show L - p = L - (p + 1) + 1 by omega, zrun, if_pos e]
theorem zskip_end {tb : Nat → Int32} {L p : Nat} (h : p < L → ¬ tb p = 32) : zskip tb (L - p) p = p := by
  by_cases q : p < L
  · rw [show L - p = L - p - 1 + 1 by omega, zskip, if_neg (h q)]
  · rw [show L - p = 0 by omega, zskip]
theorem zskip_go {tb : Nat → Int32} {L p : Nat} (h : p < L) (e : tb p = 32) : zskip tb (L - p) p = zskip tb (L - (p + 1)) (p + 1) := by
  rw [show L - p = L - (p + 1) + 1 by omega, zskip, if_pos e]
set_option maxRecDepth 20000 in
set_option maxHeartbeats 1000000 in
theorem c_MbyteAt {S : Nat × (Nat → Int32)} {d n : Nat} {ξ : Nat → Nat → Int32} {ρ : zRho} {L q : Nat} {tu : Nat → Int32} (h13 : ξ 42 13 = nI L) (h51 : ξ 51 = tu) (hL : L ≤ 200) (hq : q ≤ L) : Zc S (d + 1) jX6_byteAt [.ref 42, .int (nI q)] (zWof n ξ ρ) (fun r w => r = some (.int (if q < L then tu q else -1)) ∧ w = zWof n ξ ρ) := by
  refine Zc_in (q := (6, 0, 1, 1, 2, 0, 0, zk_X6_byteAt)) rfl (Nat.le_of_ble_eq_true rfl) (L := [_, _]) rfl ?_
  refine zr_iload_n 1 rfl rfl rfl ?_
  refine zr_aload_n 2 rfl rfl rfl trivial ?_
  refine zr_getf 5 rfl rfl rfl rfl rfl ?_
  refine zr_icmp_ge 17 8 rfl rfl (by decide) (fun c5z => ?_) (fun c5z => ?_)
  · rw [h13, nI_leI (by omega) (by omega)] at c5z
    refine zr_iconst 18 (x := (-1)) rfl rfl (by decide) ?_
    refine zr_iret rfl rfl ?_
    refine ⟨?_, rfl⟩
    rw [if_neg (by omega)]
  · rw [h13, nI_leI (by omega) (by omega)] at c5z
    refine zr_aload_n 9 rfl rfl rfl trivial ?_
    refine zr_getf 12 rfl rfl rfl rfl rfl ?_
    refine zr_iload_n 13 rfl rfl rfl ?_
    refine zr_iald 14 rfl rfl rfl (nI_clamp (by omega)) (vp_in_nI (by omega) (by omega)) ?_
    refine zr_goto 18 rfl (by decide) ?_
    refine zr_iret rfl rfl ?_
    refine ⟨?_, rfl⟩
    rw [if_pos (by omega), h51]
set_option maxRecDepth 20000 in
set_option maxHeartbeats 1000000 in
theorem c_MisLetter {S : Nat × (Nat → Int32)} {d n : Nat} {ξ : Nat → Nat → Int32} {ρ : zRho} (b : Int32) : Zc S (d + 2) jX6_isLetter [.int b] (zWof n ξ ρ) (fun r w => r = some (.int (zb (97 ≤ b ∧ b ≤ 122))) ∧ w = zWof n ξ ρ) := by
  refine Zc_in (q := (6, 2, 3, 1, 1, 0, 0, zk_X6_isLetter)) rfl (Nat.le_of_ble_eq_true rfl) (L := [_]) rfl ?_
  refine zr_iload_n 1 rfl rfl rfl ?_
  refine zr_bipush 3 (x := 97) rfl rfl (by decide) ?_
  refine zr_bipush 5 (x := 122) rfl rfl (by decide) ?_
  refine zr_calls 8 (As := [_, _, _]) (u2 := (0, 0)) rfl rfl rfl rfl rfl rfl rfl (Nat.le_of_ble_eq_true rfl) (Nat.le_of_ble_eq_true rfl) (Nat.le_of_ble_eq_true rfl) (c_Min _ _ _) rfl (fun v2 w2 h5z => ?_)
  obtain ⟨rfl, rfl⟩ := h5z
  refine zr_zret rfl rfl (zb_01 _) ?_
  exact ⟨rfl, rfl⟩
set_option maxRecDepth 20000 in
set_option maxHeartbeats 1000000 in
theorem c_MisDigit {S : Nat × (Nat → Int32)} {d n : Nat} {ξ : Nat → Nat → Int32} {ρ : zRho} (b : Int32) : Zc S (d + 2) jX6_isDigit [.int b] (zWof n ξ ρ) (fun r w => r = some (.int (zb (48 ≤ b ∧ b ≤ 57))) ∧ w = zWof n ξ ρ) := by
  refine Zc_in (q := (6, 2, 3, 1, 1, 0, 0, zk_X6_isDigit)) rfl (Nat.le_of_ble_eq_true rfl) (L := [_]) rfl ?_
  refine zr_iload_n 1 rfl rfl rfl ?_
  refine zr_bipush 3 (x := 48) rfl rfl (by decide) ?_
  refine zr_bipush 5 (x := 57) rfl rfl (by decide) ?_
  refine zr_calls 8 (As := [_, _, _]) (u2 := (0, 0)) rfl rfl rfl rfl rfl rfl rfl (Nat.le_of_ble_eq_true rfl) (Nat.le_of_ble_eq_true rfl) (Nat.le_of_ble_eq_true rfl) (c_Min _ _ _) rfl (fun v2 w2 h5z => ?_)
  obtain ⟨rfl, rfl⟩ := h5z
  refine zr_zret rfl rfl (zb_01 _) ?_
  exact ⟨rfl, rfl⟩
set_option maxRecDepth 20000 in
set_option maxHeartbeats 1000000 in
theorem c_Madvance {S : Nat × (Nat → Int32)} {d n : Nat} {ξ : Nat → Nat → Int32} {ρ : zRho} {L e : Nat} {tb tu : Nat → Int32} (h13 : ξ 42 13 = nI L) (h51 : ξ 51 = tu) (he0 : ξ 42 16 = nI e) (hL : L ≤ 200) (he : e ≤ L) (hB : zBy tb tu L) : Zc S (d + 3) jX6_advance [.ref 42] (zWof n ξ ρ) (fun r w => r = none ∧ ∃ ξ2 wd, w = zWof n ξ2 (zρw ρ wd) ∧ zMP ξ2 wd tb tu L (ztok tb L e) ∧ zfrP ξ ξ2) := by
  refine Zc_in (q := (6, 0, 0, 0, 2, 0, 0, zk_X6_advance)) rfl (Nat.le_of_ble_eq_true rfl) (L := [_, _]) rfl ?_
  have key : ∀ (k : Nat) (p : Nat) (ξ1 : Nat → Nat → Int32), L - p = k → ξ1 42 15 = nI p → (∀ b, b ≠ 42 → ξ1 b = ξ b) → (∀ k, k ≠ 15 → ξ1 42 k = ξ 42 k) → e ≤ p → p ≤ L → zskip tb (L - e) e = zskip tb (L - p) p →  Zw S (Zc S (d + 2)) 6 false 0 zk_X6_advance (fun r w => r = none ∧ ∃ ξ2 wd, w = zWof n ξ2 (zρw ρ wd) ∧ zMP ξ2 wd tb tu L (ztok tb L e) ∧ zfrP ξ ξ2) (8, [some (.ref 42), none], [], (0, 0), zWof n ξ1 ρ) := by
    intro k
    induction k using Nat.strongRecOn with
    | ind k ih =>
      intro p ξ1 hk e15 fa fk hep hpl es
      have f13 : ξ1 42 13 = nI L := (fk 13 (by decide)).trans h13
      have f51 : ξ1 51 = tu := (fa 51 (by decide)).trans h51
      have fr1 : zfrP ξ ξ1 := ⟨fa, fun k _ k2 _ _ => fk k k2⟩
      refine zr_aload_n 9 rfl rfl rfl trivial ?_
      refine zr_aload_n 10 rfl rfl rfl trivial ?_
      refine zr_getf 13 rfl rfl rfl rfl rfl ?_
      rw [e15]
      refine zr_callv 16 (As := [_]) (u2 := (0, 0)) rfl rfl rfl rfl rfl rfl rfl (Nat.le_of_ble_eq_true rfl) (Nat.le_of_ble_eq_true rfl) (Nat.le_of_ble_eq_true rfl) rfl (c_MbyteAt f13 f51 hL hpl) rfl (fun v2 w2 h13z => ?_)
      obtain ⟨rfl, rfl⟩ := h13z
      refine zr_bipush 18 (x := 32) rfl rfl (by decide) ?_
      refine zr_icmp_ne 34 21 rfl rfl (by decide) (fun c18z => ?_) (fun c18z => ?_)
      · have hp2 : p < L → ¬ tb p = 32 := fun z y => c18z (by rw [if_pos z]; exact (hB.eq z (by decide)).mpr y)
        have est : zskip tb (L - e) e = p := es.trans (zskip_end hp2)
        have et : ztok tb L e = (p, zen2 tb L p, zso tb L p) := by
          unfold ztok
          rw [est]
        refine zr_aload_n 35 rfl rfl rfl trivial ?_
        refine zr_aload_n 36 rfl rfl rfl trivial ?_
        refine zr_getf 39 rfl rfl rfl rfl rfl ?_
        refine zr_putf 42 rfl rfl rfl rfl (Nat.le_of_ble_eq_true rfl) rfl trivial (fun h => by cases h) (zW_set (k := 16) rfl) ?_
        refine zr_aload_n 43 rfl rfl rfl trivial ?_
        refine zr_aload_n 44 rfl rfl rfl trivial ?_
        refine zr_getf 47 rfl rfl rfl rfl rfl ?_
        rw [show zu ξ1 42 16 (ξ1 42 15) 42 15 = nI p from e15]
        refine zr_callv 50 (As := [_]) (u2 := (0, 0)) rfl rfl rfl rfl rfl rfl rfl (Nat.le_of_ble_eq_true rfl) (Nat.le_of_ble_eq_true rfl) (Nat.le_of_ble_eq_true rfl) rfl (c_MbyteAt (ξ := zu ξ1 42 16 (ξ1 42 15)) f13 f51 hL hpl) rfl (fun v2 w2 h47z => ?_)
        obtain ⟨rfl, rfl⟩ := h47z
        by_cases hpL : p < L
        · rw [if_pos hpL]
          refine zr_istore_n 51 (L2 := [_, _]) rfl rfl (Nat.le_of_ble_eq_true rfl) (by first | exact trivial | exact rfl) rfl ?_
          refine zr_aload_n 52 rfl rfl rfl trivial ?_
          refine zr_iload_n 53 rfl rfl rfl ?_
          refine zr_if_ge 60 56 rfl rfl (by decide) (fun c53z => ?_) (fun c53z => ?_)
          · refine zr_iload_n 61 rfl rfl rfl ?_
            refine zr_calls 64 (As := [_]) (u2 := (0, 0)) rfl rfl rfl rfl rfl rfl rfl (Nat.le_of_ble_eq_true rfl) (Nat.le_of_ble_eq_true rfl) (Nat.le_of_ble_eq_true rfl) (c_MisLetter _) rfl (fun v2 w2 h61z => ?_)
            obtain ⟨rfl, rfl⟩ := h61z
            refine zr_if_eq 71 67 rfl rfl (by decide) (fun c64z => ?_) (fun c64z => ?_)
            · replace c64z := zb_0.mp c64z
              refine zr_iload_n 72 rfl rfl rfl ?_
              refine zr_calls 75 (As := [_]) (u2 := (0, 0)) rfl rfl rfl rfl rfl rfl rfl (Nat.le_of_ble_eq_true rfl) (Nat.le_of_ble_eq_true rfl) (Nat.le_of_ble_eq_true rfl) (c_MisDigit _) rfl (fun v2 w2 h72z => ?_)
              obtain ⟨rfl, rfl⟩ := h72z
              refine zr_if_eq 82 78 rfl rfl (by decide) (fun c75z => ?_) (fun c75z => ?_)
              · replace c75z := zb_0.mp c75z
                refine zr_iconst 83 (x := 3) rfl rfl (by decide) ?_
                have hso : zso tb L p = 3 := (if_pos hpL).trans ((zsrt_3 (tb p)).resolve_left (fun z => c64z ((hB.let hpL).mpr ((zsrt_1 _).mp z))) |>.resolve_left (fun z => c75z ((hB.dig hpL).mpr ((zsrt_2 _).mp z))))
                refine zr_putf 86 rfl rfl rfl rfl (Nat.le_of_ble_eq_true rfl) rfl trivial (fun h => by cases h) (zW_set (k := 14) (v := 3) rfl) ?_
                refine zr_aload_n 87 rfl rfl rfl trivial ?_
                refine zr_lconst 88 (x := 0) rfl rfl (by decide) ?_
                refine zr_putf 91 rfl rfl rfl rfl (Nat.le_of_ble_eq_true rfl) rfl trivial (fun h => by cases h) (zW_ρw (v := 0) rfl) ?_
                refine zr_aload_n 92 rfl rfl rfl trivial ?_
                refine zr_aload_n 93 rfl rfl rfl trivial ?_
                refine zr_getf 96 rfl rfl rfl rfl rfl ?_
                refine zr_iconst 97 (x := 2) rfl rfl (by decide) ?_
                refine zr_icmp_ne 104 100 rfl rfl (by decide) (fun c97z => ?_) (fun c97z => ?_)
                · refine zr_iload_n 105 rfl rfl rfl ?_
                  refine zr_putf 108 rfl rfl rfl rfl (Nat.le_of_ble_eq_true rfl) rfl trivial (fun h => by cases h) (zW_set (k := 18) (v := (tu p)) rfl) ?_
                  refine zr_aload_n 109 rfl rfl rfl trivial ?_
                  refine zr_getf 112 rfl rfl rfl rfl rfl ?_
                  refine zr_iconst 113 (x := 3) rfl rfl (by decide) ?_
                  refine zr_icmp_ne 126 116 rfl rfl (by decide) (fun c113z => ?_) (fun c113z => ?_)
                  · exact absurd rfl c113z
                  · refine zr_aload_n 117 rfl rfl rfl trivial ?_
                    refine zr_dup 118 rfl rfl rfl ?_
                    refine zr_getf 121 rfl rfl rfl rfl rfl ?_
                    refine zr_iconst 122 (x := 1) rfl rfl (by decide) ?_
                    refine zr_iadd 123 rfl rfl ?_
                    refine zr_putf 126 rfl rfl rfl rfl (Nat.le_of_ble_eq_true rfl) rfl trivial (fun h => by cases h) (zW_set (k := 16) rfl) ?_
                    refine zr_aload_n 127 rfl rfl rfl trivial ?_
                    refine zr_getf 130 rfl rfl rfl rfl rfl ?_
                    refine zr_iconst 131 (x := 1) rfl rfl (by decide) ?_
                    refine zr_icmp_ne 207 134 rfl rfl (by decide) (fun c131z => ?_) (fun c131z => ?_)
                    · refine zr_aload_n 208 rfl rfl rfl trivial ?_
                      refine zr_getf 211 rfl rfl rfl rfl rfl ?_
                      refine zr_iconst 212 (x := 2) rfl rfl (by decide) ?_
                      refine zr_icmp_ne 282 215 rfl rfl (by decide) (fun c212z => ?_) (fun c212z => ?_)
                      · refine zr_ret rfl rfl ?_
                        refine ⟨rfl, _, 0, rfl, ?_, (((((fr1).u 16 _ (by decide)).u 14 _ (by decide)).u 18 _ (by decide)).u 16 _ (by decide))⟩
                        have ez : zen2 tb L p = p + 1 := by
                          unfold zen2
                          rw [hso, if_pos rfl]
                        rw [et, hso, ez]
                        refine ⟨f13, f51, e15, (show ξ1 42 15 + 1 = nI (p + 1) by rw [e15, nI_1]), rfl, hL, ?_, hB, fun (z : (3 : Int32) = 1) => absurd z (by decide), fun (z : (3 : Int32) = 2) => absurd z (by decide), fun _ => rfl⟩
                        have z := (ztok_w tb he).1
                        rw [et, hso, ez] at z
                        exact z
                      · exact absurd (show (3 : Int32) = 2 from c212z) (by decide)
                    · exact absurd (show (3 : Int32) = 1 from c131z) (by decide)
                · exact absurd (show (3 : Int32) = 2 from c97z) (by decide)
              · replace c75z := zb_n0.mp c75z
                refine zr_iconst 79 (x := 2) rfl rfl (by decide) ?_
                refine zr_goto 83 rfl (by decide) ?_
                have hso : zso tb L p = 2 := (if_pos hpL).trans ((zsrt_2 _).mpr ((hB.dig hpL).mp c75z))
                refine zr_putf 86 rfl rfl rfl rfl (Nat.le_of_ble_eq_true rfl) rfl trivial (fun h => by cases h) (zW_set (k := 14) (v := 2) rfl) ?_
                refine zr_aload_n 87 rfl rfl rfl trivial ?_
                refine zr_lconst 88 (x := 0) rfl rfl (by decide) ?_
                refine zr_putf 91 rfl rfl rfl rfl (Nat.le_of_ble_eq_true rfl) rfl trivial (fun h => by cases h) (zW_ρw (v := 0) rfl) ?_
                refine zr_aload_n 92 rfl rfl rfl trivial ?_
                refine zr_aload_n 93 rfl rfl rfl trivial ?_
                refine zr_getf 96 rfl rfl rfl rfl rfl ?_
                refine zr_iconst 97 (x := 2) rfl rfl (by decide) ?_
                refine zr_icmp_ne 104 100 rfl rfl (by decide) (fun c97z => ?_) (fun c97z => ?_)
                · exact absurd rfl c97z
                · refine zr_iconst 101 (x := 0) rfl rfl (by decide) ?_
                  refine zr_goto 105 rfl (by decide) ?_
                  refine zr_putf 108 rfl rfl rfl rfl (Nat.le_of_ble_eq_true rfl) rfl trivial (fun h => by cases h) (zW_set (k := 18) (v := 0) rfl) ?_
                  refine zr_aload_n 109 rfl rfl rfl trivial ?_
                  refine zr_getf 112 rfl rfl rfl rfl rfl ?_
                  refine zr_iconst 113 (x := 3) rfl rfl (by decide) ?_
                  refine zr_icmp_ne 126 116 rfl rfl (by decide) (fun c113z => ?_) (fun c113z => ?_)
                  · refine zr_aload_n 127 rfl rfl rfl trivial ?_
                    refine zr_getf 130 rfl rfl rfl rfl rfl ?_
                    refine zr_iconst 131 (x := 1) rfl rfl (by decide) ?_
                    refine zr_icmp_ne 207 134 rfl rfl (by decide) (fun c131z => ?_) (fun c131z => ?_)
                    · have key3 : ∀ (k2 : Nat) (j : Nat) (ξ3 : Nat → Nat → Int32), L - (p + j) = k2 → ξ3 42 13 = nI L → ξ3 51 = tu → ξ3 42 15 = nI p → ξ3 42 16 = nI (p + j) → ξ3 42 14 = 2 → p + j ≤ L → zrun tb 2 (L - p) p = zrun tb 2 (L - (p + j)) (p + j) → ξ3 42 18 = zvF tb p j → zfrP ξ ξ3 →  Zw S (Zc S (d + 2)) 6 false 0 zk_X6_advance (fun r w => r = none ∧ ∃ ξ2 wd, w = zWof n ξ2 (zρw ρ wd) ∧ zMP ξ2 wd tb tu L (ztok tb L e) ∧ zfrP ξ ξ2) (207, [some (.ref 42), some (.int (tu p))], [], (0, 0), zWof n ξ3 (zρw ρ 0)) := by
                        intro k2
                        induction k2 using Nat.strongRecOn with
                        | ind k2 ih2 =>
                          intro j ξ3 hk q13 q51 q15 q16 q14 hjL er ew fr
                          refine zr_aload_n 208 rfl rfl rfl trivial ?_
                          refine zr_getf 211 rfl rfl rfl rfl rfl ?_
                          refine zr_iconst 212 (x := 2) rfl rfl (by decide) ?_
                          refine zr_icmp_ne 282 215 rfl rfl (by decide) (fun c212z => ?_) (fun c212z => ?_)
                          · exact absurd q14 c212z
                          · refine zr_aload_n 216 rfl rfl rfl trivial ?_
                            refine zr_aload_n 217 rfl rfl rfl trivial ?_
                            refine zr_getf 220 rfl rfl rfl rfl rfl ?_
                            rw [q16]
                            refine zr_callv 223 (As := [_]) (u2 := (0, 0)) rfl rfl rfl rfl rfl rfl rfl (Nat.le_of_ble_eq_true rfl) (Nat.le_of_ble_eq_true rfl) (Nat.le_of_ble_eq_true rfl) rfl (c_MbyteAt q13 q51 hL hjL) rfl (fun v2 w2 h220z => ?_)
                            obtain ⟨rfl, rfl⟩ := h220z
                            refine zr_calls 226 (As := [_]) (u2 := (0, 0)) rfl rfl rfl rfl rfl rfl rfl (Nat.le_of_ble_eq_true rfl) (Nat.le_of_ble_eq_true rfl) (Nat.le_of_ble_eq_true rfl) (c_MisDigit _) rfl (fun v2 w2 h223z => ?_)
                            obtain ⟨rfl, rfl⟩ := h223z
                            refine zr_if_eq 282 229 rfl rfl (by decide) (fun c226z => ?_) (fun c226z => ?_)
                            · replace c226z := zb_0.mp c226z
                              have nl : p + j < L → ¬ zsrt (tb (p + j)) = 2 := fun z y => c226z (by rw [if_pos z]; exact (hB.dig z).mpr ((zsrt_2 _).mp y))
                              refine zr_ret rfl rfl ?_
                              refine ⟨rfl, ξ3, 0, rfl, ?_, fr⟩
                              have ez : zen2 tb L p = p + j := by
                                unfold zen2
                                rw [hso, if_neg (by decide), er]
                                exact zrun_end nl
                              rw [et, hso, ez]
                              refine ⟨q13, q51, q15, q16, q14, hL, ?_, hB, fun (z : (2 : Int32) = 1) => absurd z (by decide), fun _ => ?_, fun (z : (2 : Int32) = 3) => absurd z (by decide)⟩
                              · have z := (ztok_w tb he).1
                                rw [et, hso, ez] at z
                                exact z
                              · show ξ3 42 18 = if p + j - p ≤ 2 then zval tb (p + j - p) p 0 else -1
                                rw [ew, Nat.add_sub_cancel_left, zvF_num]
                            · replace c226z := zb_n0.mp c226z
                              have hlt : p + j < L := by
                                by_cases z : p + j < L
                                · exact z
                                · rw [if_neg z] at c226z
                                  exact absurd c226z.1 (by decide)
                              rw [if_pos hlt] at c226z
                              have hl := (hB.dig hlt).mp c226z
                              have hsame : tu (p + j) = tb (p + j) := hB.same hlt (by have := Int32.le_iff_toInt_le.mp hl.1; rw [zi48] at this; omega)
                              refine zr_aload_n 230 rfl rfl rfl trivial ?_
                              refine zr_aload_n 231 rfl rfl rfl trivial ?_
                              refine zr_getf 234 rfl rfl rfl rfl rfl ?_
                              refine zr_aload_n 235 rfl rfl rfl trivial ?_
                              refine zr_getf 238 rfl rfl rfl rfl rfl ?_
                              refine zr_isub 239 rfl rfl ?_
                              rw [q16, q15, znsub (by omega), show p + j - p = j by omega]
                              refine zr_iconst 240 (x := 2) rfl rfl (by decide) ?_
                              refine zr_icmp_ge 265 243 rfl rfl (by decide) (fun c240z => ?_) (fun c240z => ?_)
                              · rw [show (2 : Int32) = nI 2 from rfl, nI_leI (by decide) (by omega)] at c240z
                                refine zr_iconst 266 (x := (-1)) rfl rfl (by decide) ?_
                                refine zr_putf 269 rfl rfl rfl rfl (Nat.le_of_ble_eq_true rfl) rfl trivial (fun h => by cases h) (zW_set (k := 18) (v := -1) rfl) ?_
                                refine zr_aload_n 270 rfl rfl rfl trivial ?_
                                refine zr_dup 271 rfl rfl rfl ?_
                                refine zr_getf 274 rfl rfl rfl rfl rfl ?_
                                refine zr_iconst 275 (x := 1) rfl rfl (by decide) ?_
                                refine zr_iadd 276 rfl rfl ?_
                                refine zr_putf 279 rfl rfl rfl rfl (Nat.le_of_ble_eq_true rfl) rfl trivial (fun h => by cases h) (zW_set (k := 16) rfl) ?_
                                refine zr_goto 207 rfl (by decide) ?_
                                refine ih2 _ (by omega) (j + 1) _ rfl q13 q51 (by rw [zu_ne (Or.inr (by decide)), zu_ne (Or.inr (by decide))]; exact q15) (by rw [zu_same, zu_ne (Or.inr (by decide)), q16, nI_1]; rfl) (by rw [zu_ne (Or.inr (by decide)), zu_ne (Or.inr (by decide))]; exact q14) (by omega) (by rw [er, zrun_go hlt ((zsrt_2 _).mpr hl)]; rfl) ?_ ((fr.u 18 _ (by decide)).u 16 _ (by decide))
                                rw [zu_ne (Or.inr (by decide)), zu_same]
                                rw [zvF, if_neg (by omega)]
                              · rw [show (2 : Int32) = nI 2 from rfl, nI_leI (by decide) (by omega)] at c240z
                                refine zr_bipush 245 (x := 10) rfl rfl (by decide) ?_
                                refine zr_aload_n 246 rfl rfl rfl trivial ?_
                                refine zr_getf 249 rfl rfl rfl rfl rfl ?_
                                refine zr_imul 250 rfl rfl ?_
                                refine zr_aload_n 251 rfl rfl rfl trivial ?_
                                refine zr_aload_n 252 rfl rfl rfl trivial ?_
                                refine zr_getf 255 rfl rfl rfl rfl rfl ?_
                                rw [q16]
                                refine zr_callv 258 (As := [_]) (u2 := (0, 0)) rfl rfl rfl rfl rfl rfl rfl (Nat.le_of_ble_eq_true rfl) (Nat.le_of_ble_eq_true rfl) (Nat.le_of_ble_eq_true rfl) rfl (c_MbyteAt q13 q51 hL hjL) rfl (fun v2 w2 h255z => ?_)
                                obtain ⟨rfl, rfl⟩ := h255z
                                rw [if_pos hlt]
                                refine zr_iadd 259 rfl rfl ?_
                                refine zr_bipush 261 (x := 48) rfl rfl (by decide) ?_
                                refine zr_isub 262 rfl rfl ?_
                                refine zr_goto 266 rfl (by decide) ?_
                                refine zr_putf 269 rfl rfl rfl rfl (Nat.le_of_ble_eq_true rfl) rfl trivial (fun h => by cases h) (zW_set (k := 18) (v := (10 * ξ3 42 18 + tu (p + j) - 48)) rfl) ?_
                                refine zr_aload_n 270 rfl rfl rfl trivial ?_
                                refine zr_dup 271 rfl rfl rfl ?_
                                refine zr_getf 274 rfl rfl rfl rfl rfl ?_
                                refine zr_iconst 275 (x := 1) rfl rfl (by decide) ?_
                                refine zr_iadd 276 rfl rfl ?_
                                refine zr_putf 279 rfl rfl rfl rfl (Nat.le_of_ble_eq_true rfl) rfl trivial (fun h => by cases h) (zW_set (k := 16) rfl) ?_
                                refine zr_goto 207 rfl (by decide) ?_
                                refine ih2 _ (by omega) (j + 1) _ rfl q13 q51 (by rw [zu_ne (Or.inr (by decide)), zu_ne (Or.inr (by decide))]; exact q15) (by rw [zu_same, zu_ne (Or.inr (by decide)), q16, nI_1]; rfl) (by rw [zu_ne (Or.inr (by decide)), zu_ne (Or.inr (by decide))]; exact q14) (by omega) (by rw [er, zrun_go hlt ((zsrt_2 _).mpr hl)]; rfl) ?_ ((fr.u 18 _ (by decide)).u 16 _ (by decide))
                                rw [zu_ne (Or.inr (by decide)), zu_same]
                                rw [zvF, if_pos (by omega), ← ew, hsame]
                      exact key3 _ 0 _ rfl f13 f51 e15 (show ξ1 42 15 = _ from e15) rfl (by omega) rfl rfl ((((fr1).u 16 _ (by decide)).u 14 _ (by decide)).u 18 _ (by decide))
                    · exact absurd (show (2 : Int32) = 1 from c131z) (by decide)
                  · exact absurd (show (2 : Int32) = 3 from c113z) (by decide)
            · replace c64z := zb_n0.mp c64z
              refine zr_iconst 68 (x := 1) rfl rfl (by decide) ?_
              refine zr_goto 83 rfl (by decide) ?_
              have hso : zso tb L p = 1 := (if_pos hpL).trans ((zsrt_1 _).mpr ((hB.let hpL).mp c64z))
              refine zr_putf 86 rfl rfl rfl rfl (Nat.le_of_ble_eq_true rfl) rfl trivial (fun h => by cases h) (zW_set (k := 14) (v := 1) rfl) ?_
              refine zr_aload_n 87 rfl rfl rfl trivial ?_
              refine zr_lconst 88 (x := 0) rfl rfl (by decide) ?_
              refine zr_putf 91 rfl rfl rfl rfl (Nat.le_of_ble_eq_true rfl) rfl trivial (fun h => by cases h) (zW_ρw (v := 0) rfl) ?_
              refine zr_aload_n 92 rfl rfl rfl trivial ?_
              refine zr_aload_n 93 rfl rfl rfl trivial ?_
              refine zr_getf 96 rfl rfl rfl rfl rfl ?_
              refine zr_iconst 97 (x := 2) rfl rfl (by decide) ?_
              refine zr_icmp_ne 104 100 rfl rfl (by decide) (fun c97z => ?_) (fun c97z => ?_)
              · refine zr_iload_n 105 rfl rfl rfl ?_
                refine zr_putf 108 rfl rfl rfl rfl (Nat.le_of_ble_eq_true rfl) rfl trivial (fun h => by cases h) (zW_set (k := 18) (v := (tu p)) rfl) ?_
                refine zr_aload_n 109 rfl rfl rfl trivial ?_
                refine zr_getf 112 rfl rfl rfl rfl rfl ?_
                refine zr_iconst 113 (x := 3) rfl rfl (by decide) ?_
                refine zr_icmp_ne 126 116 rfl rfl (by decide) (fun c113z => ?_) (fun c113z => ?_)
                · have key2 : ∀ (k2 : Nat) (j : Nat) (ξ3 : Nat → Nat → Int32) (wd : Int64), L - (p + j) = k2 → ξ3 42 13 = nI L → ξ3 51 = tu → ξ3 42 15 = nI p → ξ3 42 16 = nI (p + j) → ξ3 42 14 = 1 → p + j ≤ L → zrun tb 1 (L - p) p = zrun tb 1 (L - (p + j)) (p + j) → wd = zwF tb p j → zfrP ξ ξ3 →  Zw S (Zc S (d + 2)) 6 false 0 zk_X6_advance (fun r w => r = none ∧ ∃ ξ2 wd, w = zWof n ξ2 (zρw ρ wd) ∧ zMP ξ2 wd tb tu L (ztok tb L e) ∧ zfrP ξ ξ2) (126, [some (.ref 42), some (.int (tu p))], [], (0, 0), zWof n ξ3 (zρw ρ wd)) := by
                    intro k2
                    induction k2 using Nat.strongRecOn with
                    | ind k2 ih2 =>
                      intro j ξ3 wd hk q13 q51 q15 q16 q14 hjL er ew fr
                      refine zr_aload_n 127 rfl rfl rfl trivial ?_
                      refine zr_getf 130 rfl rfl rfl rfl rfl ?_
                      refine zr_iconst 131 (x := 1) rfl rfl (by decide) ?_
                      refine zr_icmp_ne 207 134 rfl rfl (by decide) (fun c131z => ?_) (fun c131z => ?_)
                      · exact absurd q14 c131z
                      · refine zr_aload_n 135 rfl rfl rfl trivial ?_
                        refine zr_aload_n 136 rfl rfl rfl trivial ?_
                        refine zr_getf 139 rfl rfl rfl rfl rfl ?_
                        rw [q16]
                        refine zr_callv 142 (As := [_]) (u2 := (0, 0)) rfl rfl rfl rfl rfl rfl rfl (Nat.le_of_ble_eq_true rfl) (Nat.le_of_ble_eq_true rfl) (Nat.le_of_ble_eq_true rfl) rfl (c_MbyteAt q13 q51 hL hjL) rfl (fun v2 w2 h139z => ?_)
                        obtain ⟨rfl, rfl⟩ := h139z
                        refine zr_calls 145 (As := [_]) (u2 := (0, 0)) rfl rfl rfl rfl rfl rfl rfl (Nat.le_of_ble_eq_true rfl) (Nat.le_of_ble_eq_true rfl) (Nat.le_of_ble_eq_true rfl) (c_MisLetter _) rfl (fun v2 w2 h142z => ?_)
                        obtain ⟨rfl, rfl⟩ := h142z
                        refine zr_if_eq 207 148 rfl rfl (by decide) (fun c145z => ?_) (fun c145z => ?_)
                        · replace c145z := zb_0.mp c145z
                          have nl : p + j < L → ¬ zsrt (tb (p + j)) = 1 := fun z y => c145z (by rw [if_pos z]; exact (hB.let z).mpr ((zsrt_1 _).mp y))
                          refine zr_aload_n 208 rfl rfl rfl trivial ?_
                          refine zr_getf 211 rfl rfl rfl rfl rfl ?_
                          refine zr_iconst 212 (x := 2) rfl rfl (by decide) ?_
                          refine zr_icmp_ne 282 215 rfl rfl (by decide) (fun c212z => ?_) (fun c212z => ?_)
                          · refine zr_ret rfl rfl ?_
                            refine ⟨rfl, ξ3, wd, rfl, ?_, fr⟩
                            have ez : zen2 tb L p = p + j := by
                              unfold zen2
                              rw [hso, if_neg (by decide), er]
                              exact zrun_end nl
                            rw [et, hso, ez]
                            refine ⟨q13, q51, q15, q16, q14, hL, ?_, hB, fun _ => ?_, fun (z : (1 : Int32) = 2) => absurd z (by decide), fun (z : (1 : Int32) = 3) => absurd z (by decide)⟩
                            · have z := (ztok_w tb he).1
                              rw [et, hso, ez] at z
                              exact z
                            · show wd = zwF tb p (p + j - p)
                              rw [ew, Nat.add_sub_cancel_left]
                          · exact absurd (q14.symm.trans c212z) (by decide)
                        · replace c145z := zb_n0.mp c145z
                          have hlt : p + j < L := by
                            by_cases z : p + j < L
                            · exact z
                            · rw [if_neg z] at c145z
                              exact absurd c145z.1 (by decide)
                          rw [if_pos hlt] at c145z
                          have hl := (hB.let hlt).mp c145z
                          have hsame : tu (p + j) = tb (p + j) := hB.same hlt (by have := Int32.le_iff_toInt_le.mp hl.1; rw [zi97] at this; omega)
                          refine zr_aload_n 149 rfl rfl rfl trivial ?_
                          refine zr_aload_n 150 rfl rfl rfl trivial ?_
                          refine zr_getf 153 rfl rfl rfl rfl rfl ?_
                          refine zr_aload_n 154 rfl rfl rfl trivial ?_
                          refine zr_getf 157 rfl rfl rfl rfl rfl ?_
                          refine zr_isub 158 rfl rfl ?_
                          rw [q16, q15, znsub (by omega), show p + j - p = j by omega]
                          refine zr_bipush 160 (x := 8) rfl rfl (by decide) ?_
                          refine zr_icmp_ge 188 163 rfl rfl (by decide) (fun c160z => ?_) (fun c160z => ?_)
                          · rw [show (8 : Int32) = nI 8 from rfl, nI_leI (by decide) (by omega)] at c160z
                            refine zr_ldc2_w 191 rfl rfl rfl ?_
                            refine zr_putf 194 rfl rfl rfl rfl (Nat.le_of_ble_eq_true rfl) rfl trivial (fun h => by cases h) (zW_ρw (v := -1) rfl) ?_
                            refine zr_aload_n 195 rfl rfl rfl trivial ?_
                            refine zr_dup 196 rfl rfl rfl ?_
                            refine zr_getf 199 rfl rfl rfl rfl rfl ?_
                            refine zr_iconst 200 (x := 1) rfl rfl (by decide) ?_
                            refine zr_iadd 201 rfl rfl ?_
                            refine zr_putf 204 rfl rfl rfl rfl (Nat.le_of_ble_eq_true rfl) rfl trivial (fun h => by cases h) (zW_set (k := 16) rfl) ?_
                            refine zr_goto 126 rfl (by decide) ?_
                            refine ih2 _ (by omega) (j + 1) _ (-1) rfl q13 q51 (by rw [zu_ne (Or.inr (by decide))]; exact q15) (by rw [zu_same, q16, nI_1]; rfl) (by rw [zu_ne (Or.inr (by decide))]; exact q14) (by omega) (by rw [er, zrun_go hlt ((zsrt_1 _).mpr hl)]; rfl) ?_ (fr.u 16 _ (by decide))
                            rw [zwF, if_neg (by omega)]
                          · rw [show (8 : Int32) = nI 8 from rfl, nI_leI (by decide) (by omega)] at c160z
                            refine zr_ldc2_w 166 rfl rfl rfl ?_
                            refine zr_aload_n 167 rfl rfl rfl trivial ?_
                            refine zr_getf 170 rfl rfl rfl rfl rfl ?_
                            refine zr_lmul 171 rfl rfl ?_
                            refine zr_aload_n 172 rfl rfl rfl trivial ?_
                            refine zr_aload_n 173 rfl rfl rfl trivial ?_
                            refine zr_getf 176 rfl rfl rfl rfl rfl ?_
                            rw [q16]
                            refine zr_callv 179 (As := [_]) (u2 := (0, 0)) rfl rfl rfl rfl rfl rfl rfl (Nat.le_of_ble_eq_true rfl) (Nat.le_of_ble_eq_true rfl) (Nat.le_of_ble_eq_true rfl) rfl (c_MbyteAt q13 q51 hL hjL) rfl (fun v2 w2 h176z => ?_)
                            obtain ⟨rfl, rfl⟩ := h176z
                            rw [if_pos hlt]
                            refine zr_i2l 180 rfl rfl ?_
                            refine zr_ladd 181 rfl rfl ?_
                            refine zr_ldc2_w 184 rfl rfl rfl ?_
                            refine zr_lsub 185 rfl rfl ?_
                            refine zr_goto 191 rfl (by decide) ?_
                            refine zr_putf 194 rfl rfl rfl rfl (Nat.le_of_ble_eq_true rfl) rfl trivial (fun h => by cases h) (zW_ρw (v := (27 * wd + (tu (p + j)).toInt64 - 96)) rfl) ?_
                            refine zr_aload_n 195 rfl rfl rfl trivial ?_
                            refine zr_dup 196 rfl rfl rfl ?_
                            refine zr_getf 199 rfl rfl rfl rfl rfl ?_
                            refine zr_iconst 200 (x := 1) rfl rfl (by decide) ?_
                            refine zr_iadd 201 rfl rfl ?_
                            refine zr_putf 204 rfl rfl rfl rfl (Nat.le_of_ble_eq_true rfl) rfl trivial (fun h => by cases h) (zW_set (k := 16) rfl) ?_
                            refine zr_goto 126 rfl (by decide) ?_
                            refine ih2 _ (by omega) (j + 1) _ (27 * wd + (tu (p + j)).toInt64 - 96) rfl q13 q51 (by rw [zu_ne (Or.inr (by decide))]; exact q15) (by rw [zu_same, q16, nI_1]; rfl) (by rw [zu_ne (Or.inr (by decide))]; exact q14) (by omega) (by rw [er, zrun_go hlt ((zsrt_1 _).mpr hl)]; rfl) ?_ (fr.u 16 _ (by decide))
                            rw [zwF, if_pos (by omega), ← ew, hsame]
                  exact key2 _ 0 _ 0 rfl f13 f51 e15 (show ξ1 42 15 = _ from e15) rfl (by omega) rfl rfl ((((fr1).u 16 _ (by decide)).u 14 _ (by decide)).u 18 _ (by decide))
                · exact absurd (show (1 : Int32) = 3 from c113z) (by decide)
              · exact absurd (show (1 : Int32) = 2 from c97z) (by decide)
          · exact absurd (Int32.le_iff_toInt_le.mpr (by rw [zI0]; exact (hB p hpL).1)) c53z
        · rw [if_neg hpL]
          refine zr_istore_n 51 (L2 := [_, _]) rfl rfl (Nat.le_of_ble_eq_true rfl) (by first | exact trivial | exact rfl) rfl ?_
          refine zr_aload_n 52 rfl rfl rfl trivial ?_
          refine zr_iload_n 53 rfl rfl rfl ?_
          refine zr_if_ge 60 56 rfl rfl (by decide) (fun c53z => ?_) (fun c53z => ?_)
          · exact absurd c53z (by decide)
          · refine zr_iconst 57 (x := 0) rfl rfl (by decide) ?_
            refine zr_goto 83 rfl (by decide) ?_
            have hso : zso tb L p = 0 := if_neg hpL
            refine zr_putf 86 rfl rfl rfl rfl (Nat.le_of_ble_eq_true rfl) rfl trivial (fun h => by cases h) (zW_set (k := 14) (v := 0) rfl) ?_
            refine zr_aload_n 87 rfl rfl rfl trivial ?_
            refine zr_lconst 88 (x := 0) rfl rfl (by decide) ?_
            refine zr_putf 91 rfl rfl rfl rfl (Nat.le_of_ble_eq_true rfl) rfl trivial (fun h => by cases h) (zW_ρw (v := 0) rfl) ?_
            refine zr_aload_n 92 rfl rfl rfl trivial ?_
            refine zr_aload_n 93 rfl rfl rfl trivial ?_
            refine zr_getf 96 rfl rfl rfl rfl rfl ?_
            refine zr_iconst 97 (x := 2) rfl rfl (by decide) ?_
            refine zr_icmp_ne 104 100 rfl rfl (by decide) (fun c97z => ?_) (fun c97z => ?_)
            · refine zr_iload_n 105 rfl rfl rfl ?_
              refine zr_putf 108 rfl rfl rfl rfl (Nat.le_of_ble_eq_true rfl) rfl trivial (fun h => by cases h) (zW_set (k := 18) (v := (-1)) rfl) ?_
              refine zr_aload_n 109 rfl rfl rfl trivial ?_
              refine zr_getf 112 rfl rfl rfl rfl rfl ?_
              refine zr_iconst 113 (x := 3) rfl rfl (by decide) ?_
              refine zr_icmp_ne 126 116 rfl rfl (by decide) (fun c113z => ?_) (fun c113z => ?_)
              · refine zr_aload_n 127 rfl rfl rfl trivial ?_
                refine zr_getf 130 rfl rfl rfl rfl rfl ?_
                refine zr_iconst 131 (x := 1) rfl rfl (by decide) ?_
                refine zr_icmp_ne 207 134 rfl rfl (by decide) (fun c131z => ?_) (fun c131z => ?_)
                · refine zr_aload_n 208 rfl rfl rfl trivial ?_
                  refine zr_getf 211 rfl rfl rfl rfl rfl ?_
                  refine zr_iconst 212 (x := 2) rfl rfl (by decide) ?_
                  refine zr_icmp_ne 282 215 rfl rfl (by decide) (fun c212z => ?_) (fun c212z => ?_)
                  · refine zr_ret rfl rfl ?_
                    refine ⟨rfl, _, 0, rfl, ?_, ((((fr1).u 16 _ (by decide)).u 14 _ (by decide)).u 18 _ (by decide))⟩
                    have ez : zen2 tb L p = p := by
                      unfold zen2
                      rw [hso, if_neg (by decide)]
                      exact zrun_end (fun z => absurd z hpL)
                    rw [et, hso, ez]
                    refine ⟨f13, f51, e15, (show ξ1 42 15 = _ from e15), rfl, hL, ?_, hB, fun (z : (0 : Int32) = 1) => absurd z (by decide), fun (z : (0 : Int32) = 2) => absurd z (by decide), fun (z : (0 : Int32) = 3) => absurd z (by decide)⟩
                    have z := (ztok_w tb he).1
                    rw [et, hso, ez] at z
                    exact z
                  · exact absurd (show (0 : Int32) = 2 from c212z) (by decide)
                · exact absurd (show (0 : Int32) = 1 from c131z) (by decide)
              · exact absurd (show (0 : Int32) = 3 from c113z) (by decide)
            · exact absurd (show (0 : Int32) = 2 from c97z) (by decide)
      · have hpL : p < L := by
          by_cases z : p < L
          · exact z
          · rw [if_neg z] at c18z
            exact absurd c18z (by decide)
        rw [if_pos hpL] at c18z
        have h32 : tb p = 32 := (hB.eq hpL (by decide)).mp c18z
        refine zr_aload_n 22 rfl rfl rfl trivial ?_
        refine zr_dup 23 rfl rfl rfl ?_
        refine zr_getf 26 rfl rfl rfl rfl rfl ?_
        refine zr_iconst 27 (x := 1) rfl rfl (by decide) ?_
        refine zr_iadd 28 rfl rfl ?_
        refine zr_putf 31 rfl rfl rfl rfl (Nat.le_of_ble_eq_true rfl) rfl trivial (fun h => by cases h) (zW_set (k := 15) rfl) ?_
        refine zr_goto 8 rfl (by decide) ?_
        exact ih _ (by omega) (p + 1) _ rfl (by rw [zu_same, e15, nI_1]) (fun b hb => by rw [zun hb]; exact fa b hb) (fun k hk => by rw [zu_ne (Or.inr hk)]; exact fk k hk) (by omega) (by omega) (by rw [es, zskip_go hpL h32])
  refine zr_aload_n 1 rfl rfl rfl trivial ?_
  refine zr_aload_n 2 rfl rfl rfl trivial ?_
  refine zr_getf 5 rfl rfl rfl rfl rfl ?_
  refine zr_putf 8 rfl rfl rfl rfl (Nat.le_of_ble_eq_true rfl) rfl trivial (fun h => by cases h) (zW_set (k := 15) rfl) ?_
  exact key _ e _ rfl ((zu_same _ _ _ _).trans he0) (fun b hb => zun hb) (fun k hk => zu_ne (Or.inr hk)) (Nat.le_refl _) he rfl
