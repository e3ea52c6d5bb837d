section ZSR
variable {S : Nat × (Nat → Int32)} {C : zC} {c : Nat} {g : Bool} {rt : Nat} {K : zK} {Q : zQ} {pc : Nat} {L : zL} {r : List Value} {u : Nat × Nat} {w : zW} {n : Nat}
theorem zr_sval (np : Nat) {q : Nat} (h : zas K pc = some (.getfield 9, n)) (e : pc + n = np) (hc : c = 10) (hq : q < 13) (kk : Zw S C c g rt K Q (np, L, .retAddr (30 + q) :: r, u, w)) : Zw S C c g rt K Q (pc, L, .retAddr (10 + q) :: r, u, w) := by
  subst e
  exact zs h (Or.inr ⟨q, r, rfl, hq, hc, Or.inl ⟨rfl, rfl⟩⟩) kk
theorem zr_scod (np : Nat) {q : Nat} (h : zas K pc = some (.getfield 15, n)) (e : pc + n = np) (hc : c = 10) (hq : q < 13) (kk : Zw S C c g rt K Q (np, L, .int 0 :: r, u, w)) : Zw S C c g rt K Q (pc, L, .retAddr (10 + q) :: r, u, w) := by
  subst e
  exact zs h (Or.inr ⟨q, r, rfl, hq, hc, Or.inr ⟨rfl, rfl⟩⟩) kk
theorem zr_sg38 (np : Nat) (h : zas K pc = some (.getstatic 38, n)) (e : pc + n = np) (hc : c = 10) (kk : Zw S C c g rt K Q (np, L, .int 1 :: r, u, w)) : Zw S C c g rt K Q (pc, L, r, u, w) := by
  subst e
  exact zs h (Or.inr (Or.inl ⟨hc, rfl, rfl⟩)) kk
theorem zr_sg1053 (np : Nat) (h : zas K pc = some (.getstatic 1053, n)) (e : pc + n = np) (hc : c = 10) (kk : Zw S C c g rt K Q (np, L, .retAddr 60 :: r, u, w)) : Zw S C c g rt K Q (pc, L, r, u, w) := by
  subst e
  exact zs h (Or.inr (Or.inr ⟨hc, rfl, rfl⟩)) kk
theorem zr_sbal (np : Nat) {q : Nat} {x : Int32} {bs : List Int32} (h : zas K pc = some (.baload, n)) (e : pc + n = np) (hs : zat zstrs q = some bs) (hx : vp_in x bs.length) (kk : Zw S C c g rt K Q (np, L, .int (bs.getD x.toNatClampNeg 0) :: r, u, w)) : Zw S C c g rt K Q (pc, L, .int x :: .retAddr (30 + q) :: r, u, w) := by
  subst e
  exact zs h (Or.inr ⟨x, q, r, bs, rfl, hs, hx, rfl⟩) kk
theorem zr_slen (np : Nat) {q : Nat} {bs : List Int32} (h : zas K pc = some (.arraylength, n)) (e : pc + n = np) (hs : zat zstrs q = some bs) (kk : Zw S C c g rt K Q (np, L, .int (Int32.ofNat bs.length) :: r, u, w)) : Zw S C c g rt K Q (pc, L, .retAddr (30 + q) :: r, u, w) := by
  subst e
  exact zs h (Or.inr (Or.inr ⟨q, r, bs, rfl, hs, rfl⟩)) kk
theorem zr_cret {x : Int32} (h : zas K pc = some (.ireturn, 1)) (hr : rt = 4) (hx : narrow .char (.int x) = .int x) (hq : Q (some (.int x)) w) : Zw S C c g rt K Q (pc, L, [.int x], u, w) := zs_ret h ⟨x, rfl, Or.inr (Or.inr (Or.inl ⟨hr, hx⟩)), hq⟩
theorem zr_bret {x : Int32} (h : zas K pc = some (.ireturn, 1)) (hr : rt = 5) (hx : narrow .byte (.int x) = .int x) (hq : Q (some (.int x)) w) : Zw S C c g rt K Q (pc, L, [.int x], u, w) := zs_ret h ⟨x, rfl, Or.inr (Or.inr (Or.inr ⟨hr, hx⟩)), hq⟩
end ZSR
def zchr (x : Int32) : Int32 := ((x &&& 255).toUInt32 % 65536).toInt32
theorem zsh0 (x : Int32) : x >>> ((0 : Int32) &&& 31) = x := by
  rw [show (0 : Int32) &&& 31 = 0 by decide]
  exact Int32.shiftRight_zero
theorem zstr_lt {q : Nat} {bs : List Int32} (h : zat zstrs q = some bs) : q < 13 ∧ bs ∈ zstrs := by
  rcases (by omega : q < 13 ∨ 13 ≤ q) with hq | hq
  · refine ⟨hq, ?_⟩
    rcases (by omega : q = 0 ∨ q = 1 ∨ q = 2 ∨ q = 3 ∨ q = 4 ∨ q = 5 ∨ q = 6 ∨ q = 7 ∨ q = 8 ∨ q = 9 ∨ q = 10 ∨ q = 11 ∨ q = 12) with rfl | rfl | rfl | rfl | rfl | rfl | rfl | rfl | rfl | rfl | rfl | rfl | rfl <;> (cases h; decide)
  · obtain ⟨k, rfl⟩ : ∃ k, q = k + 13 := ⟨q - 13, by omega⟩
    cases h
theorem zgetD_mem {l : List Int32} {i : Nat} (h : i < l.length) : l.getD i 0 ∈ l := by simp [List.getD, h]
theorem zstr_ch : ∀ bs ∈ zstrs, ∀ c ∈ bs, zchr c = c := by decide
theorem zstr_len : ∀ bs ∈ zstrs, bs.length ≤ 7 ∧ 3 ≤ bs.length := by decide
set_option maxRecDepth 20000 in
theorem c_coder {S : Nat × (Nat → Int32)} {d n : Nat} {ξ : Nat → Nat → Int32} {ρ : zRho} {q : Nat} {bs : List Int32} (hs : zat zstrs q = some bs) : Zc S (d + 1) jJ0_coder_7d493 [.retAddr (10 + q)] (zWof n ξ ρ) (fun r w => r = some (.int 0) ∧ w = zWof n ξ ρ) := by
  refine Zc_in (q := (10, 0, 5, 0, 1, 0, 0, zk_J0_coder_7d493)) rfl (Nat.le_of_ble_eq_true rfl) (L := [_]) rfl ?_
  refine zr_sg38 3 rfl rfl rfl ?_
  refine zr_if_eq 13 6 rfl rfl (by decide) (fun c3z => absurd c3z (by decide)) (fun _ => ?_)
  refine zr_aload_n 7 rfl rfl rfl trivial ?_
  refine zr_scod 10 rfl rfl rfl (zstr_lt hs).1 ?_
  refine zr_goto 14 rfl (by decide) ?_
  exact zr_bret rfl rfl (by decide) ⟨rfl, rfl⟩
set_option maxRecDepth 20000 in
theorem c_length {S : Nat × (Nat → Int32)} {d n : Nat} {ξ : Nat → Nat → Int32} {ρ : zRho} {q : Nat} {bs : List Int32} (hs : zat zstrs q = some bs) : Zc S (d + 2) jJ0_length_8abf5 [.retAddr (10 + q)] (zWof n ξ ρ) (fun r w => r = some (.int (nI bs.length)) ∧ w = zWof n ξ ρ) := by
  refine Zc_in (q := (10, 0, 1, 0, 1, 0, 0, zk_J0_length_8abf5)) rfl (Nat.le_of_ble_eq_true rfl) (L := [_]) rfl ?_
  refine zr_aload_n 1 rfl rfl rfl trivial ?_
  refine zr_sval 4 rfl rfl rfl (zstr_lt hs).1 ?_
  refine zr_slen 5 rfl rfl hs ?_
  refine zr_aload_n 6 rfl rfl rfl trivial ?_
  refine zr_callt 9 (As := []) (u2 := (0, 0)) rfl rfl rfl rfl rfl rfl rfl (Nat.le_of_ble_eq_true rfl) (Nat.le_of_ble_eq_true rfl) (Nat.le_of_ble_eq_true rfl) (zstr_lt hs).1 rfl (c_coder hs) rfl (fun v2 w2 h6z => ?_)
  obtain ⟨rfl, rfl⟩ := h6z
  refine zr_ishr 10 rfl rfl ?_
  refine zr_iret rfl rfl ?_
  exact ⟨by rw [zsh0]; rfl, rfl⟩
set_option maxRecDepth 20000 in
theorem c_isLatin1 {S : Nat × (Nat → Int32)} {d n : Nat} {ξ : Nat → Nat → Int32} {ρ : zRho} {q : Nat} {bs : List Int32} (hs : zat zstrs q = some bs) : Zc S (d + 1) jJ0_isLatin1_aae02 [.retAddr (10 + q)] (zWof n ξ ρ) (fun r w => r = some (.int 1) ∧ w = zWof n ξ ρ) := by
  refine Zc_in (q := (10, 0, 3, 0, 1, 0, 0, zk_J0_isLatin1_aae02)) rfl (Nat.le_of_ble_eq_true rfl) (L := [_]) rfl ?_
  refine zr_sg38 3 rfl rfl rfl ?_
  refine zr_if_eq 17 6 rfl rfl (by decide) (fun c3z => absurd c3z (by decide)) (fun _ => ?_)
  refine zr_aload_n 7 rfl rfl rfl trivial ?_
  refine zr_scod 10 rfl rfl rfl (zstr_lt hs).1 ?_
  refine zr_if_ne 17 13 rfl rfl (by decide) (fun c => absurd rfl c) (fun _ => ?_)
  refine zr_iconst 14 (x := 1) rfl rfl (by decide) ?_
  refine zr_goto 18 rfl (by decide) ?_
  exact zr_zret rfl rfl (Or.inr rfl) ⟨rfl, rfl⟩
set_option maxRecDepth 20000 in
theorem c_checkIdx3 {S : Nat × (Nat → Int32)} {d n : Nat} {ξ : Nat → Nat → Int32} {ρ : zRho} {i m : Nat} (hi : i < m) (hm : m < 1000) (v : Value) : Zc S (d + 1) jJ3_checkIndex_8e157 [.int (nI i), .int (nI m), .retAddr 60] (zWof n ξ ρ) (fun r w => r = some (.int (nI i)) ∧ w = zWof n ξ ρ) := by
  refine Zc_in (q := (12, 2, 1, 3, 3, 0, 0, zk_J3_checkIndex_8e157)) rfl (Nat.le_of_ble_eq_true rfl) (L := [_, _, _]) rfl ?_
  refine zr_iload_n 1 rfl rfl rfl ?_
  refine zr_if_lt 9 4 rfl rfl (by decide) (fun c => absurd c (nI_pos (by omega))) (fun _ => ?_)
  refine zr_iload_n 5 rfl rfl rfl ?_
  refine zr_iload_n 6 rfl rfl rfl ?_
  refine zr_icmp_lt 16 9 rfl rfl (by decide) (fun _ => ?_) (fun c => absurd (nI_lt hi (by omega)) c)
  refine zr_iload_n 17 rfl rfl rfl ?_
  exact zr_iret rfl rfl ⟨rfl, rfl⟩
set_option maxRecDepth 20000 in
theorem c_checkIdx0 {S : Nat × (Nat → Int32)} {d n : Nat} {ξ : Nat → Nat → Int32} {ρ : zRho} {i m : Nat} (hi : i < m) (hm : m < 1000) : Zc S (d + 2) jJ0_checkIndex_df160 [.int (nI i), .int (nI m)] (zWof n ξ ρ) (fun r w => r = none ∧ w = zWof n ξ ρ) := by
  refine Zc_in (q := (10, 2, 0, 2, 2, 0, 0, zk_J0_checkIndex_df160)) rfl (Nat.le_of_ble_eq_true rfl) (L := [_, _]) rfl ?_
  refine zr_iload_n 1 rfl rfl rfl ?_
  refine zr_iload_n 2 rfl rfl rfl ?_
  refine zr_sg1053 5 rfl rfl rfl ?_
  refine zr_calls 8 (As := [_, _, _]) (u2 := (0, 0)) rfl rfl rfl rfl rfl rfl rfl (Nat.le_of_ble_eq_true rfl) (Nat.le_of_ble_eq_true rfl) (Nat.le_of_ble_eq_true rfl) (c_checkIdx3 hi hm .null) rfl (fun v2 w2 h5z => ?_)
  obtain ⟨rfl, rfl⟩ := h5z
  refine zr_pop 9 rfl rfl rfl ?_
  exact zr_ret rfl rfl ⟨rfl, rfl⟩
set_option maxRecDepth 20000 in
theorem c_charAt1 {S : Nat × (Nat → Int32)} {d n : Nat} {ξ : Nat → Nat → Int32} {ρ : zRho} {q : Nat} {bs : List Int32} (hs : zat zstrs q = some bs) {i : Nat} (hi : i < bs.length) : Zc S (d + 3) jJ1_charAt_3b067 [.retAddr (30 + q), .int (nI i)] (zWof n ξ ρ) (fun r w => r = some (.int (bs.getD i 0)) ∧ w = zWof n ξ ρ) := by
  have hl := zstr_len bs (zstr_lt hs).2
  refine Zc_in (q := (11, 2, 4, 2, 2, 0, 0, zk_J1_charAt_3b067)) rfl (Nat.le_of_ble_eq_true rfl) (L := [_, _]) rfl ?_
  refine zr_iload_n 1 rfl rfl rfl ?_
  refine zr_aload_n 2 rfl rfl rfl trivial ?_
  refine zr_slen 3 rfl rfl hs ?_
  refine zr_calls 6 (As := [_, _]) (u2 := (0, 0)) rfl rfl rfl rfl rfl rfl rfl (Nat.le_of_ble_eq_true rfl) (Nat.le_of_ble_eq_true rfl) (Nat.le_of_ble_eq_true rfl) (c_checkIdx0 hi (by omega)) rfl (fun v2 w2 h3z => ?_)
  obtain ⟨rfl, rfl⟩ := h3z
  refine zr_aload_n 7 rfl rfl rfl trivial ?_
  refine zr_iload_n 8 rfl rfl rfl ?_
  refine zr_sbal 9 rfl rfl hs (vp_in_nI hi (by omega)) ?_
  refine zr_sipush 12 (x := 255) rfl rfl (by decide) ?_
  refine zr_iand 13 rfl rfl ?_
  refine zr_i2c 14 rfl rfl ?_
  refine zr_cret rfl rfl (pk_nc _) ⟨?_, rfl⟩
  rw [nI_clamp (by omega)]
  have e := zstr_ch bs (zstr_lt hs).2 (bs.getD i 0) (zgetD_mem hi)
  unfold zchr at e
  rw [e]
set_option maxRecDepth 20000 in
theorem c_charAt {S : Nat × (Nat → Int32)} {d n : Nat} {ξ : Nat → Nat → Int32} {ρ : zRho} {q : Nat} {bs : List Int32} (hs : zat zstrs q = some bs) {i : Nat} (hi : i < bs.length) : Zc S (d + 4) jJ0_charAt_5068e [.retAddr (10 + q), .int (nI i)] (zWof n ξ ρ) (fun r w => r = some (.int (bs.getD i 0)) ∧ w = zWof n ξ ρ) := by
  refine Zc_in (q := (10, 0, 4, 1, 2, 0, 0, zk_J0_charAt_5068e)) rfl (Nat.le_of_ble_eq_true rfl) (L := [_, _]) rfl ?_
  refine zr_aload_n 1 rfl rfl rfl trivial ?_
  refine zr_callt 4 (As := []) (u2 := (0, 0)) rfl rfl rfl rfl rfl rfl rfl (Nat.le_of_ble_eq_true rfl) (Nat.le_of_ble_eq_true rfl) (Nat.le_of_ble_eq_true rfl) (zstr_lt hs).1 rfl (c_isLatin1 hs) rfl (fun v2 w2 h6z => ?_)
  obtain ⟨rfl, rfl⟩ := h6z
  refine zr_if_eq 16 7 rfl rfl (by decide) (fun c => absurd c (by decide)) (fun _ => ?_)
  refine zr_aload_n 8 rfl rfl rfl trivial ?_
  refine zr_sval 11 rfl rfl rfl (zstr_lt hs).1 ?_
  refine zr_iload_n 12 rfl rfl rfl ?_
  refine zr_calls 15 (As := [_, _]) (u2 := (0, 0)) rfl rfl rfl rfl rfl rfl rfl (Nat.le_of_ble_eq_true rfl) (Nat.le_of_ble_eq_true rfl) (Nat.le_of_ble_eq_true rfl) (c_charAt1 hs hi) rfl (fun v2 w2 h3z => ?_)
  obtain ⟨rfl, rfl⟩ := h3z
  have e := zstr_ch bs (zstr_lt hs).2 (bs.getD i 0) (zgetD_mem hi)
  exact zr_cret rfl rfl (by rw [← e]; exact pk_nc _) ⟨rfl, rfl⟩
