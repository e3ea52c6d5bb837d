/-- a class as it is told: in order, but that DATES may lie behind DUE -/
abbrev zPk (K : zCs) : Prop := zOK (K.slaw 0 50) ∧ (1 ≤ (K.law 0).toInt ∧ (K.law 0).toInt ≤ 50) ∧ K.T = 0
theorem zPk.drop {K : zCs} (h : zPk K) : zOK K.drop := by
  have hv : zlok 0 (K.law 0) := Or.inl ⟨rfl, Int32.le_iff_toInt_le.mpr (by rw [zI1]; exact h.2.1.1), Int32.le_iff_toInt_le.mpr (by rw [show (50 : Int32).toInt = 50 by decide]; exact h.2.1.2)⟩
  have q := h.1.setl hv
  rw [show ((0 : Int32).toNatClampNeg) = 0 from rfl, zslaw2, zslaw_same] at q
  exact q
theorem zPk0 (z : Int32) : zPk (zK0 z) := ⟨⟨Nat.zero_le _, Nat.zero_le _, Nat.zero_le _, show 1 ≤ (50 : Int32).toInt ∧ (50 : Int32).toInt ≤ 50 by decide, show 1 ≤ (8 : Int32).toInt ∧ (8 : Int32).toInt ≤ 12 by decide, show 0 ≤ (5 : Int32).toInt ∧ (5 : Int32).toInt ≤ 30 by decide, show 0 ≤ (0 : Int32).toInt ∧ (0 : Int32).toInt ≤ 10 by decide, show 0 ≤ (5 : Int32).toInt ∧ (5 : Int32).toInt ≤ 30 by decide, fun i hi => absurd hi (Nat.not_lt_zero _), fun i hi => absurd hi (Nat.not_lt_zero _), fun i hi => absurd hi (Nat.not_lt_zero _), fun i hi => absurd hi (Nat.not_lt_zero _)⟩, show 1 ≤ (29 : Int32).toInt ∧ (29 : Int32).toInt ≤ 50 by decide, rfl⟩
theorem zPk.slaw {K : zCs} (h : zPk K) {l : Nat} (hl : l < 3) {v : Int32} (h1 : zllo l ≤ v) (h2 : v ≤ zlhi l) : zPk (K.slaw l v) := by
  have a1 := Int32.le_iff_toInt_le.mp h1
  have a2 := Int32.le_iff_toInt_le.mp h2
  rcases (by omega : l = 0 ∨ l = 1 ∨ l = 2) with rfl | rfl | rfl
  · refine ⟨?_, ⟨a1, a2⟩, h.2.2⟩
    rw [zslaw2]
    exact h.1
  · exact ⟨⟨h.1.d3, h.1.m6, h.1.t60, h.1.l0, ⟨a1, a2⟩, h.1.l2, h.1.l3, h.1.l4, h.1.hdd, h.1.hds, h.1.hdp, h.1.hp⟩, h.2.1, h.2.2⟩
  · exact ⟨⟨h.1.d3, h.1.m6, h.1.t60, h.1.l0, h.1.l1, ⟨a1, a2⟩, h.1.l3, h.1.l4, h.1.hdd, h.1.hds, h.1.hdp, h.1.hp⟩, h.2.1, h.2.2⟩
theorem zPk.addD {K : zCs} (h : zPk K) (h3 : K.D < 3) {day part : Int32} (d1 : zleast K ≤ day) (d2 : day ≤ 49) (p1 : 1 ≤ part) (p2 : part ≤ 99) : zPk (K.addD day part) := by
  have a1 := Int32.le_iff_toInt_le.mp d1
  have a2 := Int32.le_iff_toInt_le.mp d2
  have a3 := Int32.le_iff_toInt_le.mp p1
  have a4 := Int32.le_iff_toInt_le.mp p2
  rw [show (49 : Int32).toInt = 49 by decide] at a2
  rw [zI1] at a3
  rw [show (99 : Int32).toInt = 99 by decide] at a4
  have e50 : (upd K.law 0 50 0).toInt = 50 := by show (50 : Int32).toInt = 50; decide
  have hr : ∀ i, i < K.D → 0 ≤ (K.dd i).toInt ∧ (K.dd i).toInt < 50 := fun i hi => by
    have q := h.1.hdd i hi
    have z : (K.dd i).toInt < (upd K.law 0 50 0).toInt := q.2
    rw [e50] at z
    exact ⟨q.1, z⟩
  have hlow : 0 ≤ day.toInt ∧ ∀ i, i < K.D → (K.dd i).toInt < day.toInt := by
    unfold zleast at a1
    by_cases q : 0 < K.D
    · rw [if_pos q] at a1
      have b := hr (K.D - 1) (by omega)
      rw [zTadd (by rw [zI1]; omega) (by rw [zI1]; omega), zI1] at a1
      refine ⟨by omega, fun i hi => ?_⟩
      have c := zsortD h.1.hds (K.D - 1) i (by omega) (show K.D - 1 < K.D by omega)
      have c2 : (K.dd i).toInt ≤ (K.dd (K.D - 1)).toInt := c
      omega
    · rw [if_neg q, zI0] at a1
      exact ⟨a1, fun i hi => by omega⟩
  refine ⟨h.1.addD h3 hlow.1 (show day.toInt < (upd K.law 0 50 0).toInt by rw [e50]; omega) ?_ ⟨a3, a4⟩, h.2.1, h.2.2⟩
  rintro ⟨i, hi, e⟩
  have q := hlow.2 i hi
  rw [show K.dd i = day from e] at q
  omega
theorem zPk.addP {K : zCs} (h : zPk K) (h6 : K.M < 6) {kd a wk : Int32} (hp : zpar kd a wk) : zPk (K.addP kd a wk) := ⟨h.1.addP h6 hp, h.2.1, h.2.2⟩
theorem zPk.ill {K : zCs} (h : zPk K) (i : Nat) (v : Int32) : zPk (K.sp i 4 v) := ⟨h.1.sp i (fun hi => (h.1.hp i hi).ill v), h.2.1, h.2.2⟩
theorem zendF_k {tb : Nat → Int32} {L : Nat} {K : zCs} {t : zTk} {q : zCs × zTk} (h : zPk K) (e : zendF tb L K t = .inr q) : zPk q.1 := by
  unfold zendF at e
  split at e
  · cases e
    exact h
  · cases e
theorem zillL_k {tb : Nat → Int32} {L i : Nat} : ∀ (n : Nat) (K : zCs) (t : zTk) (q : zCs × zTk), zPk K → zillL tb L i n K t = .inr q → zPk q.1
  | 0, _, _, _, _, e => by cases e
  | n + 1, K, t, q, h, e => by
    unfold zillL at e
    split at e
    · split at e
      · exact zillL_k n _ _ q (h.ill i _) e
      · exact zendF_k (h.ill i _) e
    · cases e
theorem zkind_r (tb : Nat → Int32) (t : zTk) : -1 ≤ zkindF tb t ∧ zkindF tb t < 6 := by
  unfold zkindF
  split
  · decide
  split
  · decide
  split
  · decide
  split
  · decide
  split
  · decide
  split <;> decide
theorem zstmt_k {tb : Nat → Int32} {L : Nat} {K : zCs} {t : zTk} {q : zCs × zTk} (h : zPk K) (e : zstmt tb L K t = .inr q) : zPk q.1 := by
  have law : ∀ l, l < 3 → zrlawF tb L K l t = .inr q → zPk q.1 := fun l hl e => by
    unfold zrlawF at e
    split at e
    · rename_i c
      exact zendF_k (h.slaw hl c.2.2.1 c.2.2.2) e
    · cases e
  unfold zstmt at e
  split at e
  · rename_i c0
    unfold zrperF at e
    split at e
    · rename_i c1
      unfold zrper1 at e
      split at e
      · rename_i c2
        unfold zrper2 at e
        split at e
        · unfold zrper3 at e
          split at e
          · rename_i c3
            have hp : zPk (K.addP (zkindF tb t) (znum tb (zNx tb L t)) (znum tb (zNx tb L (zNx tb L (zNx tb L t))))) := h.addP c1 ⟨⟨c0, (zkind_r tb t).2⟩, ⟨c2.2.2.1, c2.2.2.2⟩, c3.2.2.1, c3.2.2.2⟩
            unfold zrper4 at e
            split at e
            · exact zillL_k _ _ _ q hp e
            · exact zendF_k hp e
          · cases e
        · cases e
      · cases e
    · cases e
  split at e
  · exact law 0 (by decide) e
  split at e
  · exact law 1 (by decide) e
  split at e
  · exact law 2 (by decide) e
  split at e
  · unfold zrdateF at e
    split at e
    · rename_i c1
      unfold zrdate1 at e
      split at e
      · rename_i c2
        unfold zrdate2 at e
        split at e
        · unfold zrdate3 at e
          split at e
          · rename_i c3
            exact zendF_k (h.addD c1 c2.2.2.1 c2.2.2.2 c3.2.2.1 c3.2.2.2) e
          · cases e
        · cases e
      · cases e
    · cases e
  · cases e
theorem zprs_k {tb : Nat → Int32} {L : Nat} : ∀ (n : Nat) (K : zCs) (t : zTk) (K2 : zCs), zPk K → zprs tb L n K t = .inr K2 → zPk K2
  | 0, _, _, _, _, e => by cases e
  | n + 1, K, t, K2, h, e => by
    unfold zprs at e
    split at e
    · cases e
      exact h
    · cases eS : zstmt tb L K t with
      | inl f =>
        rw [eS] at e
        cases e
      | inr q =>
        rw [eS] at e
        exact zprs_k n q.1 q.2 K2 (zstmt_k h eS) e
theorem ztask_k {tb : Nat → Int32} {L : Nat} {z : Int32} {K : zCs} (e : ztask tb L z = .inr K) : zPk K := zprs_k _ _ _ K (zPk0 z) e
theorem zendF_w {tb : Nat → Int32} {L : Nat} {K : zCs} {t : zTk} {q : zCs × zTk} (h : zTw tb L t) (e : zendF tb L K t = .inr q) : zTw tb L q.2 := by
  unfold zendF at e
  split at e
  · cases e
    exact h.nx
  · cases e
theorem zillL_w {tb : Nat → Int32} {L i : Nat} : ∀ (n : Nat) (K : zCs) (t : zTk) (q : zCs × zTk), zTw tb L t → zillL tb L i n K t = .inr q → zTw tb L q.2
  | 0, _, _, _, _, e => by cases e
  | n + 1, K, t, q, h, e => by
    unfold zillL at e
    split at e
    · split at e
      · exact zillL_w n _ _ q h.nx.nx e
      · exact zendF_w h.nx.nx e
    · cases e
theorem zstmt_w {tb : Nat → Int32} {L : Nat} {K : zCs} {t : zTk} {q : zCs × zTk} (h : zTw tb L t) (e : zstmt tb L K t = .inr q) : zTw tb L q.2 := by
  have law : ∀ l, zrlawF tb L K l t = .inr q → zTw tb L q.2 := fun l e => by
    unfold zrlawF at e
    split at e
    · exact zendF_w h.nx.nx e
    · cases e
  unfold zstmt at e
  split at e
  · unfold zrperF at e
    split at e
    · unfold zrper1 at e
      split at e
      · unfold zrper2 at e
        split at e
        · unfold zrper3 at e
          split at e
          · unfold zrper4 at e
            split at e
            · exact zillL_w _ _ _ q h.nx.nx.nx.nx e
            · exact zendF_w h.nx.nx.nx.nx e
          · cases e
        · cases e
      · cases e
    · cases e
  split at e
  · exact law 0 e
  split at e
  · exact law 1 e
  split at e
  · exact law 2 e
  split at e
  · unfold zrdateF at e
    split at e
    · unfold zrdate1 at e
      split at e
      · unfold zrdate2 at e
        split at e
        · unfold zrdate3 at e
          split at e
          · exact zendF_w h.nx.nx.nx.nx e
          · cases e
        · cases e
      · cases e
    · cases e
  · cases e
theorem zprs_f {tb : Nat → Int32} {L : Nat} : ∀ (n : Nat) (K : zCs) (t : zTk) (f : Nat), zTw tb L t → zprs tb L n K t = .inl f → f ≤ L
  | 0, _, _, _, _, e => by
    cases e
    exact Nat.zero_le _
  | n + 1, K, t, f, h, e => by
    unfold zprs at e
    split at e
    · cases e
    · cases eS : zstmt tb L K t with
      | inl g =>
        rw [eS] at e
        cases e
        exact zstmt_f h eS
      | inr q =>
        rw [eS] at e
        exact zprs_f n q.1 q.2 f (zstmt_w h eS) e
theorem ztask_f {tb : Nat → Int32} {L f : Nat} {z : Int32} (e : ztask tb L z = .inl f) : f ≤ L := zprs_f _ _ _ f (ztok_w tb (Nat.zero_le _)).1 e
def zbyt (e : Int64) (i : Nat) : Int32 := (e.toUInt64 >>> ((8 * nI i).toInt64.toUInt64 &&& Int64.toUInt64 63)).toInt64.toInt32.toInt8.toInt32
theorem zbyt_n (e : Int64) (i : Nat) : vp_nar .byte (zbyt e i) = zbyt e i := by
  unfold vp_nar zbyt
  rw [pk_nb]
def zfdT (tb : Nat → Int32) (L m : Nat) (e : Int64) : Nat → Int32 := fun k => if L ≤ k ∧ k < L + m then zbyt e (k - L) else tb k
set_option maxRecDepth 20000 in
set_option maxHeartbeats 1000000 in
theorem c_append {S : Nat × (Nat → Int32)} {d n : Nat} {ξ : Nat → Nat → Int32} {ρ : zRho} {L m : Nat} (h1 : ξ 34 1 = nI L) (hL : L ≤ 200) (hm : m ≤ 8) (e : Int64) : Zc S (d + 1) jX3_append [.ref 34, .long e, .int (nI m)] (zWof n ξ ρ) (fun r w => (200 < L + m → r = some (.int 0) ∧ w = zWof n ξ ρ) ∧ (L + m ≤ 200 → r = some (.int 1) ∧ ∃ ξ2, w = zWof n ξ2 ρ ∧ ξ2 34 1 = nI (L + m) ∧ ξ2 35 = zfdT (ξ 35) L m e ∧ ∀ b, b ≠ 34 → b ≠ 35 → ξ2 b = ξ b)) := by
  refine Zc_in (q := (3, 0, 3, 2, 5, 0, 0, zk_X3_append)) rfl (Nat.le_of_ble_eq_true rfl) (L := [_, _, _, _, _]) rfl ?_
  have key : ∀ (k : Nat) (i : Nat) (ξ1 : Nat → Nat → Int32), m - i = k → L + m ≤ 200 → i ≤ m → ξ1 34 1 = nI (L + i) → ξ1 35 = zfdT (ξ 35) L i e → (∀ b, b ≠ 34 → b ≠ 35 → ξ1 b = ξ b) →  Zw S (Zc S d) 3 false 3 zk_X3_append (fun r w => (200 < L + m → r = some (.int 0) ∧ w = zWof n ξ ρ) ∧ (L + m ≤ 200 → r = some (.int 1) ∧ ∃ ξ2, w = zWof n ξ2 ρ ∧ ξ2 34 1 = nI (L + m) ∧ ξ2 35 = zfdT (ξ 35) L m e ∧ ∀ b, b ≠ 34 → b ≠ 35 → ξ2 b = ξ b)) (17, [some (.ref 34), some (.long e), none, some (.int (nI m)), some (.int (nI i))], [], (0, 0), zWof n ξ1 ρ) := by
    intro k
    induction k using Nat.strongRecOn with
    | ind k ih =>
      intro i ξ1 hk h2 hi e1 e35 f1
      refine zr_iload 19 rfl rfl rfl ?_
      refine zr_iload_n 20 rfl rfl rfl ?_
      refine zr_icmp_ge 57 23 rfl rfl (by decide) (fun c20z => ?_) (fun c20z => ?_)
      · rw [nI_leI (by omega) (by omega)] at c20z
        refine zr_iconst 58 (x := 1) rfl rfl (by decide) ?_
        refine zr_zret rfl rfl (Or.inr rfl) ?_
        refine ⟨fun z => by omega, fun _ => ⟨rfl, ξ1, rfl, ?_, ?_, f1⟩⟩
        · rw [e1, show i = m by omega]
        · rw [e35, show i = m by omega]
      · rw [nI_leI (by omega) (by omega)] at c20z
        refine zr_aload_n 24 rfl rfl rfl trivial ?_
        refine zr_getf 27 rfl rfl rfl rfl rfl ?_
        refine zr_aload_n 28 rfl rfl rfl trivial ?_
        refine zr_getf 31 rfl rfl rfl rfl rfl ?_
        rw [e1]
        refine zr_lload_n 32 rfl rfl rfl ?_
        refine zr_bipush 34 (x := 8) rfl rfl (by decide) ?_
        refine zr_iload 36 rfl rfl rfl ?_
        refine zr_imul 37 rfl rfl ?_
        refine zr_lushr 38 rfl rfl ?_
        refine zr_l2i 39 rfl rfl ?_
        refine zr_i2b 40 rfl rfl ?_
        rw [show (e.toUInt64 >>> ((8 * nI i).toInt64.toUInt64 &&& Int64.toUInt64 63)).toInt64.toInt32.toInt8.toInt32 = zbyt e i from rfl]
        refine zr_bast 41 rfl rfl rfl (nI_clamp (by omega)) (vp_in_nI (by omega) (by omega)) (zW_set rfl) ?_
        rw [zbyt_n]
        refine zr_aload_n 42 rfl rfl rfl trivial ?_
        refine zr_dup 43 rfl rfl rfl ?_
        refine zr_getf 46 rfl rfl rfl rfl rfl ?_
        refine zr_iconst 47 (x := 1) rfl rfl (by decide) ?_
        refine zr_iadd 48 rfl rfl ?_
        refine zr_putf 51 rfl rfl rfl rfl (Nat.le_of_ble_eq_true rfl) rfl trivial (fun h => by cases h) (zW_set (k := 1) rfl) ?_
        refine zr_iinc 54 (c0 := 1) (L2 := [_, _, _, _, _]) rfl rfl rfl (by first | exact trivial | exact rfl) (by decide) rfl ?_
        refine zr_goto 17 rfl (by decide) ?_
        rw [nI_1]
        refine ih _ (by omega) (i + 1) _ rfl h2 (by omega) ?_ ?_ (fun b b1 b2 => ?_)
        · rw [zu_same, zun (by decide), e1, nI_1]
          rfl
        · rw [zun (by decide), zup, e35]
          funext k
          unfold upd zfdT
          by_cases q : k = L + i
          · rw [if_pos q, if_pos (by omega), q, Nat.add_sub_cancel_left]
          · rw [if_neg q]
            by_cases q2 : L ≤ k ∧ k < L + i
            · rw [if_pos q2, if_pos (by omega)]
            · rw [if_neg q2, if_neg (by omega)]
        · rw [zun b1, zun b2]
          exact f1 b b1 b2
  refine zr_aload_n 1 rfl rfl rfl trivial ?_
  refine zr_getf 4 rfl rfl rfl rfl rfl ?_
  refine zr_iload_n 5 rfl rfl rfl ?_
  refine zr_iadd 6 rfl rfl ?_
  rw [h1, nI_add]
  refine zr_sipush 9 (x := 200) rfl rfl (by decide) ?_
  refine zr_icmp_le 14 12 rfl rfl (by decide) (fun c9z => ?_) (fun c9z => ?_)
  · rw [show (200 : Int32) = nI 200 from rfl, nI_leI (by omega) (by omega)] at c9z
    refine zr_iconst 15 (x := 0) rfl rfl (by decide) ?_
    refine zr_istore 17 (L2 := [_, _, _, _, _]) rfl rfl (Nat.le_of_ble_eq_true rfl) (by first | exact trivial | exact rfl) rfl ?_
    refine key _ 0 ξ rfl c9z (Nat.zero_le _) h1 ?_ (fun _ _ _ => rfl)
    funext k
    unfold zfdT
    rw [if_neg (by omega)]
  · rw [show (200 : Int32) = nI 200 from rfl, nI_leI (by omega) (by omega)] at c9z
    refine zr_iconst 13 (x := 0) rfl rfl (by decide) ?_
    refine zr_zret rfl rfl (Or.inl rfl) ?_
    exact ⟨fun _ => ⟨rfl, rfl⟩, fun z => by omega⟩
set_option maxRecDepth 20000 in
set_option maxHeartbeats 1000000 in
theorem c_feed {S : Nat × (Nat → Int32)} {d n : Nat} {ξ : Nat → Nat → Int32} {ρ : zRho} {L : Nat} (h1 : ξ 34 1 = nI L) (hL : L ≤ 200) (e : Int64) (v : Int32) : Zc S (d + 2) jX5_feed [.ref 0, .long e, .int v] (zWof n ξ ρ) (fun r w => (¬ (1 ≤ v ∧ v ≤ 8) → r = some (.int (-1)) ∧ w = zWof n ξ ρ) ∧ ∀ m, v = nI m → 1 ≤ m → m ≤ 8 → (200 < L + m → r = some (.int (-2)) ∧ w = zWof n ξ ρ) ∧ (L + m ≤ 200 → ∃ ξ2, w = zWof n ξ2 ρ ∧ r = some (.int (nI (L + m))) ∧ ξ2 34 1 = nI (L + m) ∧ ξ2 35 = zfdT (ξ 35) L m e ∧ ∀ b, b ≠ 34 → b ≠ 35 → ξ2 b = ξ b)) := by
  refine Zc_in (q := (5, 0, 1, 2, 4, 0, 0, zk_X5_feed)) rfl (Nat.le_of_ble_eq_true rfl) (L := [_, _, _, _]) rfl ?_
  refine zr_iload_n 1 rfl rfl rfl ?_
  refine zr_iconst 2 (x := 1) rfl rfl (by decide) ?_
  refine zr_icmp_lt 11 5 rfl rfl (by decide) (fun c2z => ?_) (fun c2z => ?_)
  · refine zr_iconst 12 (x := (-1)) rfl rfl (by decide) ?_
    refine zr_iret rfl rfl ?_
    refine ⟨fun _ => ⟨rfl, rfl⟩, fun m e1 e2 e3 => ?_⟩
    subst e1
    exact absurd c2z (Int32.not_lt.mpr ((nI_leI (a := 1) (by decide) (by omega)).mpr e2))
  · refine zr_iload_n 6 rfl rfl rfl ?_
    refine zr_bipush 8 (x := 8) rfl rfl (by decide) ?_
    refine zr_icmp_le 13 11 rfl rfl (by decide) (fun c8z => ?_) (fun c8z => ?_)
    · obtain ⟨m, hm, rfl⟩ := zbetI (k := 8) rfl (by decide) (Int32.le_trans (by decide) (Int32.not_lt.mp c2z)) c8z
      have hm1 : 1 ≤ m := (nI_leI (a := 1) (by decide) (by omega)).mp (Int32.not_lt.mp c2z)
      refine Zw_mono (Q := fun r w => (200 < L + m → r = some (.int (-2)) ∧ w = zWof n ξ ρ) ∧ (L + m ≤ 200 → ∃ ξ2, w = zWof n ξ2 ρ ∧ r = some (.int (nI (L + m))) ∧ ξ2 34 1 = nI (L + m) ∧ ξ2 35 = zfdT (ξ 35) L m e ∧ ∀ b, b ≠ 34 → b ≠ 35 → ξ2 b = ξ b)) ?_ (fun r w q => ⟨fun z => absurd ⟨Int32.not_lt.mp c2z, c8z⟩ z, fun m' e1 e2 e3 => by
        obtain rfl : m = m' := (nI_eq (by omega) (by omega)).mp e1
        exact q⟩)
      refine zr_aload_n 14 rfl rfl rfl trivial ?_
      refine zr_getf 17 rfl rfl rfl rfl rfl ?_
      refine zr_lload_n 18 rfl rfl rfl ?_
      refine zr_iload_n 19 rfl rfl rfl ?_
      refine zr_callv 22 (As := [_, _]) (u2 := (0, 0)) rfl rfl rfl rfl rfl rfl rfl (Nat.le_of_ble_eq_true rfl) (Nat.le_of_ble_eq_true rfl) (Nat.le_of_ble_eq_true rfl) rfl (c_append h1 hL hm e) rfl (fun v2 w2 h19z => ?_)
      by_cases q : L + m ≤ 200
      · obtain ⟨rfl, ξ2, rfl, x1, x2, x3⟩ := h19z.2 q
        refine zr_if_eq 35 25 rfl rfl (by decide) (fun z => absurd z (by decide)) (fun _ => ?_)
        refine zr_aload_n 26 rfl rfl rfl trivial ?_
        refine zr_getf 29 rfl rfl rfl rfl rfl ?_
        refine zr_getf 32 rfl rfl rfl rfl rfl ?_
        refine zr_goto 37 rfl (by decide) ?_
        refine zr_iret rfl rfl ?_
        exact ⟨fun z => by omega, fun _ => ⟨ξ2, rfl, by rw [x1], x1, x2, x3⟩⟩
      · obtain ⟨rfl, rfl⟩ := h19z.1 (by omega)
        refine zr_if_eq 35 25 rfl rfl (by decide) (fun _ => ?_) (fun z => absurd rfl z)
        refine zr_bipush 37 (x := (-2)) rfl rfl (by decide) ?_
        refine zr_iret rfl rfl ?_
        exact ⟨fun _ => ⟨rfl, rfl⟩, fun z => absurd z q⟩
    · refine zr_iconst 12 (x := (-1)) rfl rfl (by decide) ?_
      refine zr_iret rfl rfl ?_
      refine ⟨fun _ => ⟨rfl, rfl⟩, fun m e1 e2 e3 => ?_⟩
      subst e1
      exact absurd ((nI_leI (b := 8) (by omega) (by decide)).mpr e3) c8z
set_option maxRecDepth 20000 in
set_option maxHeartbeats 1000000 in
theorem c_task {S : Nat × (Nat → Int32)} {d n : Nat} {ξ : Nat → Nat → Int32} {ρ : zRho} {K : zCs} (h : zXR ξ 1 K) (hK : zOK K) {L : Nat} (h1 : ξ 34 1 = nI L) (hL : L ≤ 200) : Zc S (d + 10) jX5_task [.ref 0] (zWof n ξ ρ) (fun r w => ∃ ξ2, w = zWof n ξ2 (zρ1 ρ (.ref 23)) ∧ ξ2 34 1 = 0 ∧ (∀ b, (b < 23 ∨ 35 ≤ b) → b ≠ 0 → (b < 1 ∨ 12 ≤ b) → ξ2 b = ξ b) ∧ (∀ k, k ≠ 6 → ξ2 0 k = ξ 0 k) ∧ (∀ f, ztask (ξ 35) L (ξ 23 7) = .inl f → r = some (.int (-100 - nI f)) ∧ zXR ξ2 1 K ∧ ξ2 0 6 = ξ 0 6) ∧ (∀ K2, ztask (ξ 35) L (ξ 23 7) = .inr K2 → r = some (.int (nI K2.M)) ∧ zXR ξ2 1 (K2.drop.sz K.z) ∧ ξ2 0 6 = 0)) := by
  have hd3 := hK.d3
  have hm6 := hK.m6
  have ht60 := hK.t60
  refine Zc_in (q := (5, 0, 1, 0, 2, 0, 0, zk_X5_task)) rfl (Nat.le_of_ble_eq_true rfl) (L := [_, _]) rfl ?_
  refine zr_aload_n 1 rfl rfl rfl trivial ?_
  refine zr_getf 4 rfl rfl rfl rfl rfl ?_
  refine zr_aload_n 5 rfl rfl rfl trivial ?_
  refine zr_getf 8 rfl rfl rfl rfl rfl ?_
  refine zr_callv 11 (As := [_]) (u2 := (0, 0)) rfl rfl rfl rfl rfl rfl rfl (Nat.le_of_ble_eq_true rfl) (Nat.le_of_ble_eq_true rfl) (Nat.le_of_ble_eq_true rfl) rfl (c_readInto h1 hL) rfl (fun v2 w2 h8z => ?_)
  obtain ⟨ξ1, rfl, x, rfl, f1, l1, m1⟩ := h8z
  cases eT : ztask (ξ 35) L (ξ 23 7) with
  | inl f =>
    rw [eT] at m1
    subst m1
    have hf := ztask_f eT
    refine zr_istore_n 12 (L2 := [_, _]) rfl rfl (Nat.le_of_ble_eq_true rfl) (by first | exact trivial | exact rfl) rfl ?_
    refine zr_aload_n 13 rfl rfl rfl trivial ?_
    refine zr_getf 16 rfl rfl rfl rfl rfl ?_
    refine zr_iconst 17 (x := 0) rfl rfl (by decide) ?_
    refine zr_putf 20 rfl rfl rfl rfl (Nat.le_of_ble_eq_true rfl) rfl trivial (fun h => by cases h) (zW_set (k := 1) rfl) ?_
    refine zr_iload_n 21 rfl rfl rfl ?_
    refine zr_if_lt 29 24 rfl rfl (by decide) (fun z => absurd z (nI_pos (by omega))) (fun _ => ?_)
    refine zr_bipush 26 (x := (-100)) rfl rfl (by decide) ?_
    refine zr_iload_n 27 rfl rfl rfl ?_
    refine zr_isub 28 rfl rfl ?_
    refine zr_iret rfl rfl ?_
    refine ⟨_, rfl, zu_same _ _ _ _, fun b hb _ _ => ?_, fun k hk => ?_, fun f2 e2 => ?_, fun K2 e2 => ?_⟩
    · rw [zun (by omega)]
      exact f1 b hb
    · rw [zun (by decide), f1 0 (by omega)]
    · cases e2
      refine ⟨rfl, h.fr hm6 (fun a a1 a2 => ?_), ?_⟩
      · rw [zun (by omega), f1 a (by omega)]
      · rw [zun (by decide), f1 0 (by omega)]
    · cases e2
  | inr K2 =>
    rw [eT] at m1
    obtain ⟨rfl, x1⟩ := m1
    have hk2 := ztask_k eT
    refine zr_istore_n 12 (L2 := [_, _]) rfl rfl (Nat.le_of_ble_eq_true rfl) (by first | exact trivial | exact rfl) rfl ?_
    refine zr_aload_n 13 rfl rfl rfl trivial ?_
    refine zr_getf 16 rfl rfl rfl rfl rfl ?_
    refine zr_iconst 17 (x := 0) rfl rfl (by decide) ?_
    refine zr_putf 20 rfl rfl rfl rfl (Nat.le_of_ble_eq_true rfl) rfl trivial (fun h => by cases h) (zW_set (k := 1) rfl) ?_
    refine zr_iload_n 21 rfl rfl rfl ?_
    refine zr_if_lt 29 24 rfl rfl (by decide) (fun _ => ?_) (fun z => absurd (by decide) z)
    have ez : zu ξ1 34 1 0 1 7 = K.z := by
      rw [zun (by decide), f1 1 (by omega)]
      exact h.hz
    refine zr_aload_n 30 rfl rfl rfl trivial ?_
    refine zr_getf 33 rfl rfl rfl rfl rfl ?_
    refine zr_aload_n 34 rfl rfl rfl trivial ?_
    refine zr_getf 37 rfl rfl rfl rfl rfl ?_
    refine zr_getf 40 rfl rfl rfl rfl rfl ?_
    rw [ez]
    refine zr_putf 43 rfl rfl rfl rfl (Nat.le_of_ble_eq_true rfl) rfl trivial (fun h => by cases h) (zs_co zc23 7 (by decide) _) ?_
    refine zr_aload_n 44 rfl rfl rfl trivial ?_
    refine zr_getf 47 rfl rfl rfl rfl rfl ?_
    refine zr_aload_n 48 rfl rfl rfl trivial ?_
    refine zr_getf 51 rfl rfl rfl rfl rfl ?_
    refine zr_callv 54 (As := [_]) (u2 := (0, 0)) rfl rfl rfl rfl rfl rfl rfl (Nat.le_of_ble_eq_true rfl) (Nat.le_of_ble_eq_true rfl) (Nat.le_of_ble_eq_true rfl) rfl (k_copy zc1 zc23 (by decide) ((x1.fr hk2.drop.m6 (fun a a1 a2 => (zun (by omega) : zu ξ1 34 1 0 a = ξ1 a))).sz K.z) (hk2.drop.sz K.z)) rfl (fun v2 w2 h51z => ?_)
    obtain ⟨rfl, ξ2, rfl, x2, f2⟩ := h51z
    refine zr_aload_n 55 rfl rfl rfl trivial ?_
    refine zr_iconst 56 (x := 0) rfl rfl (by decide) ?_
    refine zr_putf 59 rfl rfl rfl rfl (Nat.le_of_ble_eq_true rfl) rfl trivial (fun h => by cases h) (zW_set (k := 6) rfl) ?_
    refine zr_aload_n 60 rfl rfl rfl trivial ?_
    refine zr_getf 63 rfl rfl rfl rfl rfl ?_
    refine zr_getf 66 rfl rfl rfl rfl rfl ?_
    refine zr_iret rfl rfl ?_
    refine ⟨_, rfl, ?_, fun b b1 b2 b3 => ?_, fun k hk => ?_, fun f e2 => ?_, fun K3 e2 => ?_⟩
    · rw [zun (by decide), f2 34 (by omega), zun (by decide), zu_same]
    · rw [zun b2, f2 b (by omega), zun (by omega), zun (by omega), f1 b (by omega)]
    · rw [zu_ne (Or.inr hk), f2 0 (by omega), zun (by decide), zun (by decide), f1 0 (by omega)]
    · cases e2
    · cases e2
      refine ⟨?_, x2.fr hk2.drop.m6 (fun a a1 a2 => zun (by omega)), zu_same _ _ _ _⟩
      rw [zun (by decide), x2.hm]
      rfl
