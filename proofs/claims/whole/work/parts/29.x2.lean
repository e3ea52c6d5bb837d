abbrev zfrA (b : Nat) (ξ ξ2 : Nat → Nat → Int32) : Prop := ∀ a, (a < b ∨ b + 11 ≤ a) → ξ2 a = ξ a
theorem zperI {x m : Int32} {M : Nat} (hm : m = nI M) (hM : M ≤ 100) (h : 0 ≤ x ∧ x < m) : ∃ i, i < M ∧ x = nI i := by
  obtain ⟨j, hj, rfl⟩ := nI_of (x := x) (Int32.not_lt.mpr h.1)
  rw [hm, nI_ltI hj (by omega)] at h
  exact ⟨j, h.2, rfl⟩
theorem zbetI {x : Int32} {k : Nat} {y : Int32} (hy : y = nI k) (hk : k ≤ 1000) (h0 : 0 ≤ x) (h1 : x ≤ y) : ∃ i, i ≤ k ∧ x = nI i := by
  obtain ⟨j, hj, rfl⟩ := nI_of (x := x) (Int32.not_lt.mpr h0)
  rw [hy, nI_leI hj (by omega)] at h1
  exact ⟨j, h1, rfl⟩
/-- what is asked of a PERSON by number, or BAD -/
def zper (K : zCs) (x : Int32) (g : Nat → Int32) : Int32 := if 0 ≤ x ∧ x < nI K.M then g x.toNatClampNeg else -1
theorem zper_in {K : zCs} (hK : K.M ≤ 6) {i : Nat} (hi : i < K.M) (g : Nat → Int32) : zper K (nI i) g = g i := by
  unfold zper
  rw [if_pos ⟨nI_pos' (by omega), nI_lt hi (by omega)⟩, nI_clamp (by omega)]
theorem zper_out {K : zCs} {x : Int32} {m : Int32} (hm : m = nI K.M) (g : Nat → Int32) (h : ¬ (0 ≤ x ∧ x < m)) : zper K x g = -1 := by
  unfold zper
  rw [if_neg (by rw [← hm]; exact h)]
abbrev zlok (l v : Int32) : Prop := (l = 0 ∧ 1 ≤ v ∧ v ≤ 50) ∨ (l = 1 ∧ 1 ≤ v ∧ v ≤ 12) ∨ (l = 2 ∧ 0 ≤ v ∧ v ≤ 30) ∨ (l = 3 ∧ 0 ≤ v ∧ v ≤ 10) ∨ (l = 4 ∧ 0 ≤ v ∧ v ≤ 30)
theorem zlaw5 {l : Int32} (h : 0 ≤ l ∧ l < 5) : l = 0 ∨ l = 1 ∨ l = 2 ∨ l = 3 ∨ l = 4 := by
  obtain ⟨i, hi, rfl⟩ := zperI (M := 5) rfl (by decide) h
  rcases (by omega : i = 0 ∨ i = 1 ∨ i = 2 ∨ i = 3 ∨ i = 4) with rfl | rfl | rfl | rfl | rfl
  · exact Or.inl rfl
  · exact Or.inr (Or.inl rfl)
  · exact Or.inr (Or.inr (Or.inl rfl))
  · exact Or.inr (Or.inr (Or.inr (Or.inl rfl)))
  · exact Or.inr (Or.inr (Or.inr (Or.inr rfl)))
theorem zlok5 {l v : Int32} (h : zlok l v) : 0 ≤ l ∧ l < 5 := by
  rcases h with ⟨rfl, _⟩ | ⟨rfl, _⟩ | ⟨rfl, _⟩ | ⟨rfl, _⟩ | ⟨rfl, _⟩ <;> decide
theorem zlok_x (S : Nat × (Nat → Int32)) {l v : Int32} (h : 0 ≤ l ∧ l < 5) : ((zct S 0).2 l.toNatClampNeg ≤ v ∧ v ≤ (zct S 1).2 l.toNatClampNeg) ↔ zlok l v := by
  rcases zlaw5 h with rfl | rfl | rfl | rfl | rfl
  · exact ⟨fun q => Or.inl ⟨rfl, q⟩, fun q => by rcases q with ⟨_, q⟩ | ⟨e, _⟩ | ⟨e, _⟩ | ⟨e, _⟩ | ⟨e, _⟩ <;> first | exact q | cases e⟩
  · exact ⟨fun q => Or.inr (Or.inl ⟨rfl, q⟩), fun q => by rcases q with ⟨e, _⟩ | ⟨_, q⟩ | ⟨e, _⟩ | ⟨e, _⟩ | ⟨e, _⟩ <;> first | exact q | cases e⟩
  · exact ⟨fun q => Or.inr (Or.inr (Or.inl ⟨rfl, q⟩)), fun q => by rcases q with ⟨e, _⟩ | ⟨e, _⟩ | ⟨_, q⟩ | ⟨e, _⟩ | ⟨e, _⟩ <;> first | exact q | cases e⟩
  · exact ⟨fun q => Or.inr (Or.inr (Or.inr (Or.inl ⟨rfl, q⟩))), fun q => by rcases q with ⟨e, _⟩ | ⟨e, _⟩ | ⟨e, _⟩ | ⟨_, q⟩ | ⟨e, _⟩ <;> first | exact q | cases e⟩
  · exact ⟨fun q => Or.inr (Or.inr (Or.inr (Or.inr ⟨rfl, q⟩))), fun q => by rcases q with ⟨e, _⟩ | ⟨e, _⟩ | ⟨e, _⟩ | ⟨e, _⟩ | ⟨_, q⟩ <;> first | exact q | cases e⟩
def zCs.slaw (K : zCs) (l : Nat) (v : Int32) : zCs := (K.D, K.M, K.T, K.z, upd K.law l v, K.dd, K.dp, K.p)
def zCs.drop (K : zCs) : zCs := (zdropF K.dd (K.law 0) K.D, K.M, K.T, K.z, K.law, K.dd, K.dp, K.p)
def zCs.set (K : zCs) (l v : Int32) : zCs × Int32 := if zlok l v then ((K.slaw l.toNatClampNeg v).drop, K.law l.toNatClampNeg) else (K, -1)
def zCs.addD (K : zCs) (day part : Int32) : zCs := (K.D + 1, K.M, K.T, K.z, K.law, (zaddF day part K.D (K.dd, K.dp)).1, (zaddF day part K.D (K.dd, K.dp)).2, K.p)
def zCs.cutD (K : zCs) (i : Nat) : zCs := (K.D - 1, K.M, K.T, K.z, K.law, zrmF (K.D - 1 - i) i K.dd, zrmF (K.D - 1 - i) i K.dp, K.p)
abbrev zCs.has (K : zCs) (day : Int32) : Prop := ∃ i, i < K.D ∧ K.dd i = day
def zCs.date (K : zCs) (day part : Int32) : zCs × Int32 := if day < 0 ∨ K.law 0 ≤ day ∨ part < 1 ∨ 99 < part then (K, -1) else if K.has day then (K, -4) else if 3 ≤ K.D then (K, -2) else (K.addD day part, nI (K.D + 1))
def zCs.strike (K : zCs) (x : Int32) : zCs × Int32 := if 0 ≤ x ∧ x < nI K.D then (K.cutD x.toNatClampNeg, nI (K.D - 1)) else (K, -1)
def znewp (kd a wk : Int32) : Nat → Int32 := fun k => if k = 0 then kd else if k = 1 then a else if k = 2 then wk else if k = 5 then -9 else 0
def zCs.addP (K : zCs) (kd a wk : Int32) : zCs := (K.D, K.M + 1, K.T, K.z, K.law, K.dd, K.dp, fun j => if j = K.M then znewp kd a wk else K.p j)
abbrev zpar (kd a wk : Int32) : Prop := (0 ≤ kd ∧ kd < 6) ∧ (0 ≤ a ∧ a ≤ 9) ∧ 1 ≤ wk ∧ wk ≤ 99
def zCs.person (K : zCs) (kd a wk : Int32) : zCs × Int32 := if zpar kd a wk then (if K.M < 6 then (K.addP kd a wk, nI K.M) else (K, -2)) else (K, -1)
/-- a field of a PERSON anew -/
def zCs.sp (K : zCs) (i k : Nat) (v : Int32) : zCs := (K.D, K.M, K.T, K.z, K.law, K.dd, K.dp, fun j => if j = i then upd (K.p i) k v else K.p j)
def zCs.sz (K : zCs) (v : Int32) : zCs := (K.D, K.M, K.T, v, K.law, K.dd, K.dp, K.p)
def zCs.mind (K : zCs) (x kd a : Int32) : zCs × Int32 := if (0 ≤ x ∧ x < nI K.M) ∧ (0 ≤ kd ∧ kd < 6) ∧ (0 ≤ a ∧ a ≤ 9) then ((K.sp x.toNatClampNeg 0 kd).sp x.toNatClampNeg 1 a, K.p x.toNatClampNeg 0) else (K, -1)
def zbc1 (x : Int32) : Int32 := x - ((x.toUInt32 >>> (Int32.toUInt32 1 &&& Int32.toUInt32 31)).toInt32 &&& 1431655765)
def zbc2 (x : Int32) : Int32 := (x &&& 858993459) + ((x.toUInt32 >>> (Int32.toUInt32 2 &&& Int32.toUInt32 31)).toInt32 &&& 858993459)
def zbc3 (x : Int32) : Int32 := (x + (x.toUInt32 >>> (Int32.toUInt32 4 &&& Int32.toUInt32 31)).toInt32) &&& 252645135
def zbc4 (x : Int32) : Int32 := x + (x.toUInt32 >>> (Int32.toUInt32 8 &&& Int32.toUInt32 31)).toInt32
def zbc5 (x : Int32) : Int32 := x + (x.toUInt32 >>> (Int32.toUInt32 16 &&& Int32.toUInt32 31)).toInt32
def zbits (x : Int32) : Int32 := zbc5 (zbc4 (zbc3 (zbc2 (zbc1 x)))) &&& 63
def zCs.ill (K : zCs) (x v : Int32) : zCs × Int32 := if (0 ≤ x ∧ x < nI K.M) ∧ 0 ≤ v ∧ v ≤ 1073741823 then (K.sp x.toNatClampNeg 4 v, zbits v) else (K, -1)
def zlotD (z : Int32) : Int32 := ((z.toUInt32 >>> (Int32.toUInt32 16 &&& Int32.toUInt32 31)).toInt32) - ((z.toUInt32 >>> (Int32.toUInt32 16 &&& Int32.toUInt32 31)).toInt32) / 30 * 30
def zCs.lot (K : zCs) (x : Int32) : zCs × Int32 := if 0 ≤ x ∧ x < nI K.M then ((K.sz (K.z * 1103515245 + 12345)).sp x.toNatClampNeg 4 (K.p x.toNatClampNeg 4 ||| (1 : Int32) <<< (zlotD (K.z * 1103515245 + 12345) &&& 31)), zlotD (K.z * 1103515245 + 12345)) else (K, -1)
def zCs.days (K : zCs) (x : Int32) : zCs × Int32 := if 0 ≤ x ∧ x ≤ 60 then (K.go (min 60 (K.T + x.toNatClampNeg)), nI (min 60 (K.T + x.toNatClampNeg))) else (K, -1)
theorem zaddF_hi {day part : Int32} : ∀ (D : Nat) (f : (Nat → Int32) × (Nat → Int32)) (i : Nat), D < i → (zaddF day part D f).1 i = f.1 i ∧ (zaddF day part D f).2 i = f.2 i
  | 0, f, i, hi => by
    unfold zaddF upd
    exact ⟨if_neg (by omega), if_neg (by omega)⟩
  | D + 1, f, i, hi => by
    unfold zaddF
    split
    · unfold upd
      exact ⟨if_neg (by omega), if_neg (by omega)⟩
    · obtain ⟨a, b⟩ := zaddF_hi D (upd f.1 (D + 1) (f.1 D), upd f.2 (D + 1) (f.2 D)) i (by omega)
      rw [a, b]
      unfold upd
      exact ⟨if_neg (by omega), if_neg (by omega)⟩
theorem zaddF_cg {day part : Int32} : ∀ (D : Nat) (f g : (Nat → Int32) × (Nat → Int32)), (∀ i, i < D → f.1 i = g.1 i) → (∀ i, i < D → f.2 i = g.2 i) → ∀ i, i < D + 1 → (zaddF day part D f).1 i = (zaddF day part D g).1 i ∧ (zaddF day part D f).2 i = (zaddF day part D g).2 i
  | 0, f, g, h1, h2, i, hi => by
    obtain rfl : i = 0 := by omega
    exact ⟨rfl, rfl⟩
  | D + 1, f, g, h1, h2, i, hi => by
    unfold zaddF
    rw [h1 D (by omega)]
    split
    · unfold upd
      refine ⟨?_, ?_⟩
      · by_cases q : i = D + 1
        · simp [q]
        · simp only [q, if_false]
          exact h1 i (by omega)
      · by_cases q : i = D + 1
        · simp [q]
        · simp only [q, if_false]
          exact h2 i (by omega)
    · by_cases q : i < D + 1
      · refine zaddF_cg D _ _ (fun j hj => ?_) (fun j hj => ?_) i q
        · show upd f.1 (D + 1) _ j = upd g.1 (D + 1) _ j
          unfold upd
          rw [if_neg (by omega), if_neg (by omega)]
          exact h1 j (by omega)
        · show upd f.2 (D + 1) _ j = upd g.2 (D + 1) _ j
          unfold upd
          rw [if_neg (by omega), if_neg (by omega)]
          exact h2 j (by omega)
      · obtain rfl : i = D + 1 := by omega
        rw [h2 D (by omega)]
        exact ⟨by rw [(zaddF_hi D _ (D + 1) (by omega)).1, (zaddF_hi D _ (D + 1) (by omega)).1]; simp [upd], by rw [(zaddF_hi D _ (D + 1) (by omega)).2, (zaddF_hi D _ (D + 1) (by omega)).2]; simp [upd]⟩
theorem zrmF_cg : ∀ (n k : Nat) (f g : Nat → Int32), (∀ i, i < k + n + 1 → f i = g i) → ∀ i, i < k + n → zrmF n k f i = zrmF n k g i
  | 0, k, f, g, h, i, hi => h i (by omega)
  | n + 1, k, f, g, h, i, hi => by
    unfold zrmF
    refine zrmF_cg n (k + 1) _ _ (fun j hj => ?_) i (by omega)
    unfold upd
    rw [h (k + 1) (by omega), h j (by omega)]
theorem zdropF_cg {dd dd2 : Nat → Int32} {due : Int32} : ∀ D, (∀ i, i < D → dd i = dd2 i) → zdropF dd due D = zdropF dd2 due D
  | 0, _ => rfl
  | D + 1, h => by
    unfold zdropF
    rw [h D (by omega), zdropF_cg D (fun i hi => h i (by omega))]
set_option maxRecDepth 20000 in
set_option maxHeartbeats 1000000 in
theorem c_set {S : Nat × (Nat → Int32)} {d n : Nat} {ξ : Nat → Nat → Int32} {ρ : zRho} {K : zCs} (h : zXR ξ 1 K) (hK : zOK K) (l v : Int32) : Zc S (d + 2) jX5_set [.ref 0, .int l, .int v] (zWof n ξ ρ) (fun r w => ∃ ξ2, w = zWof n ξ2 ρ ∧ r = some (.int (K.set l v).2) ∧ zXR ξ2 1 (K.set l v).1 ∧ zfrA 1 ξ ξ2) := by
  have hd3 := hK.d3
  have hm6 := hK.m6
  have ht60 := hK.t60
  refine Zc_in (q := (5, 0, 1, 2, 4, 0, 0, zk_X5_set)) rfl (Nat.le_of_ble_eq_true rfl) (L := [_, _, _, _]) rfl ?_
  refine zr_iload_n 1 rfl rfl rfl ?_
  refine zr_calls 4 (As := [_]) (u2 := (0, 0)) rfl rfl rfl rfl rfl rfl rfl (Nat.le_of_ble_eq_true rfl) (Nat.le_of_ble_eq_true rfl) (Nat.le_of_ble_eq_true rfl) (c_isLaw _) rfl (fun v2 w2 h1z => ?_)
  obtain ⟨rfl, rfl⟩ := h1z
  refine zr_if_eq 25 7 rfl rfl (by decide) (fun c4z => ?_) (fun c4z => ?_)
  · replace c4z := zb_0.mp c4z
    refine zr_iconst 26 (x := (-1)) rfl rfl (by decide) ?_
    refine zr_iret rfl rfl ?_
    refine ⟨ξ, rfl, ?_⟩
    rw [show K.set l v = _ from if_neg (fun q => c4z (zlok5 q))]
    exact ⟨rfl, h, fun _ _ => rfl⟩
  · replace c4z := zb_n0.mp c4z
    refine zr_iload_n 8 rfl rfl rfl ?_
    refine zr_gets 11 rfl rfl rfl ?_
    refine zr_iload_n 12 rfl rfl rfl ?_
    refine zr_ialc 13 rfl rfl (by decide) rfl (zvin_lt c4z.1 c4z.2 (show (5 : Int32).toInt ≤ ((5 : Nat) : Int) by decide)) ?_
    refine zr_icmp_lt 25 16 rfl rfl (by decide) (fun c13z => ?_) (fun c13z => ?_)
    · refine zr_iconst 26 (x := (-1)) rfl rfl (by decide) ?_
      refine zr_iret rfl rfl ?_
      refine ⟨ξ, rfl, ?_⟩
      rw [show K.set l v = _ from if_neg (fun q => absurd ((zlok_x S c4z).mpr q).1 (Int32.not_le.mpr c13z))]
      exact ⟨rfl, h, fun _ _ => rfl⟩
    · refine zr_iload_n 17 rfl rfl rfl ?_
      refine zr_gets 20 rfl rfl rfl ?_
      refine zr_iload_n 21 rfl rfl rfl ?_
      refine zr_ialc 22 rfl rfl (by decide) rfl (zvin_lt c4z.1 c4z.2 (show (5 : Int32).toInt ≤ ((5 : Nat) : Int) by decide)) ?_
      refine zr_icmp_le 27 25 rfl rfl (by decide) (fun c22z => ?_) (fun c22z => ?_)
      · refine zr_aload_n 28 rfl rfl rfl trivial ?_
        refine zr_getf 31 rfl rfl rfl rfl rfl ?_
        refine zr_getf 34 rfl rfl rfl rfl rfl ?_
        refine zr_iload_n 35 rfl rfl rfl ?_
        refine zr_iald 36 rfl rfl rfl rfl (zvin_lt c4z.1 c4z.2 (by decide)) ?_
        refine zr_istore_n 37 (L2 := [_, _, _, _]) rfl rfl (Nat.le_of_ble_eq_true rfl) (by first | exact trivial | exact rfl) rfl ?_
        refine zr_aload_n 38 rfl rfl rfl trivial ?_
        refine zr_getf 41 rfl rfl rfl rfl rfl ?_
        refine zr_getf 44 rfl rfl rfl rfl rfl ?_
        refine zr_iload_n 45 rfl rfl rfl ?_
        refine zr_iload_n 46 rfl rfl rfl ?_
        refine zr_iast 47 rfl rfl rfl rfl (zvin_lt c4z.1 c4z.2 (by decide)) (zW_set rfl) ?_
        refine zr_aload_n 48 rfl rfl rfl trivial ?_
        refine zr_getf 51 rfl rfl rfl rfl rfl ?_
        refine zr_callv 54 (As := []) (u2 := (0, 0)) rfl rfl rfl rfl rfl rfl rfl (Nat.le_of_ble_eq_true rfl) (Nat.le_of_ble_eq_true rfl) (Nat.le_of_ble_eq_true rfl) rfl (c_dropDates zc1 h.hd hd3) rfl (fun v2 w2 h51z => ?_)
        obtain ⟨rfl, rfl⟩ := h51z
        refine zr_iload_n 55 rfl rfl rfl ?_
        refine zr_iret rfl rfl ?_
        have hlk : zlok l v := (zlok_x S c4z).mp ⟨Int32.not_lt.mp c13z, c22z⟩
        have hl5 : l.toNatClampNeg < 5 := zpidx (M := 5) c4z (by decide)
        refine ⟨_, rfl, ?_⟩
        rw [show K.set l v = ((K.slaw l.toNatClampNeg v).drop, K.law l.toNatClampNeg) from if_pos hlk]
        refine ⟨by rw [h.hl _ hl5], ⟨?_, ?_, ?_, ?_, fun i hi => ?_, fun i hi => ?_, fun i hi => ?_, fun i hi k hk => ?_⟩, fun a ha => ?_⟩
        · rw [zu_same]
          show nI _ = nI (zdropF K.dd (upd K.law l.toNatClampNeg v 0) K.D)
          rw [zun (by decide), zup, zdropF_cg K.D h.hdd]
          congr 2
          show upd _ _ _ 0 = upd _ _ _ 0
          unfold upd
          split
          · rfl
          · exact h.hl 0 (by decide)
        · rw [zu_ne (Or.inr (by decide)), zun (by decide)]
          exact h.hm
        · rw [zu_ne (Or.inr (by decide)), zun (by decide)]
          exact h.ht
        · rw [zu_ne (Or.inr (by decide)), zun (by decide)]
          exact h.hz
        · rw [zun (by decide), zup]
          show upd _ _ _ i = upd _ _ _ i
          unfold upd
          split
          · rfl
          · exact h.hl i hi
        · rw [zun (by decide), zun (by decide)]
          exact h.hdd i (Nat.lt_of_lt_of_le hi (zdropF_le _ _ _))
        · rw [zun (by decide), zun (by decide)]
          exact h.hdp i (Nat.lt_of_lt_of_le hi (zdropF_le _ _ _))
        · have hi6 : i < K.M := hi
          rw [zun (by omega), zun (by omega)]
          exact h.hp i hi k hk
        · rw [zun (by omega), zun (by omega)]
      · refine zr_iconst 26 (x := (-1)) rfl rfl (by decide) ?_
        refine zr_iret rfl rfl ?_
        refine ⟨ξ, rfl, ?_⟩
        rw [show K.set l v = _ from if_neg (fun q => c22z ((zlok_x S c4z).mpr q).2)]
        exact ⟨rfl, h, fun _ _ => rfl⟩
theorem zXR.hasD {ξ : Nat → Nat → Int32} {b : Nat} {K : zCs} (h : zXR ξ b K) (day : Int32) : (∃ i, i < K.D ∧ ξ (b + 2) i = day) ↔ K.has day :=
  ⟨fun ⟨i, a, e⟩ => ⟨i, a, by rw [← h.hdd i a]; exact e⟩, fun ⟨i, a, e⟩ => ⟨i, a, by rw [h.hdd i a]; exact e⟩⟩
theorem k_addDate {S : Nat × (Nat → Int32)} {d n b : Nat} {ξ : Nat → Nat → Int32} {ρ : zRho} {K : zCs} (hb : zisC b) (h : zXR ξ b K) (h3 : K.D < 3) (h6 : K.M ≤ 6) (day part : Int32) : Zc S (d + 1) jX0_addDate [.ref b, .int day, .int part] (zWof n ξ ρ) (fun r w => r = none ∧ ∃ ξ2, w = zWof n ξ2 ρ ∧ zXR ξ2 b (K.addD day part) ∧ zfrA b ξ ξ2) := by
  refine Zc_mono (c_addDate hb h.hd h3 day part) ?_
  rintro r w ⟨e1, ξ2, e2, f1, f2, f3, f4⟩
  have e3 := congrArg Prod.fst f1
  have e4 := congrArg Prod.snd f1
  have cg := zaddF_cg (day := day) (part := part) K.D (ξ (b + 2), ξ (b + 3)) (K.dd, K.dp) h.hdd h.hdp
  refine ⟨e1, ξ2, e2, ⟨f2, ?_, ?_, ?_, fun i hi => ?_, fun i hi => ?_, fun i hi => ?_, fun i hi k hk => ?_⟩, fun a ha => f4 a (by omega) (by omega) (by omega)⟩
  · rw [f3 5 (by decide)]; exact h.hm
  · rw [f3 6 (by decide)]; exact h.ht
  · rw [f3 7 (by decide)]; exact h.hz
  · rw [f4 _ (by omega) (by omega) (by omega)]; exact h.hl i hi
  · rw [show ξ2 (b + 2) = _ from e3]
    exact (cg i hi).1
  · rw [show ξ2 (b + 3) = _ from e4]
    exact (cg i hi).2
  · rw [f4 _ (by omega) (by omega) (by omega)]; exact h.hp i hi k hk
theorem k_cutDate {S : Nat × (Nat → Int32)} {d n b : Nat} {ξ : Nat → Nat → Int32} {ρ : zRho} {K : zCs} (hb : zisC b) (h : zXR ξ b K) (h3 : K.D ≤ 3) (h6 : K.M ≤ 6) {i : Nat} (hi : i < K.D) : Zc S (d + 1) jX0_removeDate [.ref b, .int (nI i)] (zWof n ξ ρ) (fun r w => r = none ∧ ∃ ξ2, w = zWof n ξ2 ρ ∧ zXR ξ2 b (K.cutD i) ∧ zfrA b ξ ξ2) := by
  refine Zc_mono (c_removeDate hb h.hd h3 hi) ?_
  rintro r w ⟨e1, ξ2, e2, f1, f1b, f2, f3, f4⟩
  refine ⟨e1, ξ2, e2, ⟨f2, ?_, ?_, ?_, fun i hi => ?_, fun j hj => ?_, fun j hj => ?_, fun i hi k hk => ?_⟩, fun a ha => f4 a (by omega) (by omega) (by omega)⟩
  · rw [f3 5 (by decide)]; exact h.hm
  · rw [f3 6 (by decide)]; exact h.ht
  · rw [f3 7 (by decide)]; exact h.hz
  · rw [f4 _ (by omega) (by omega) (by omega)]; exact h.hl i hi
  · have hj2 : j < K.D - 1 := hj
    rw [f1]
    exact zrmF_cg _ _ _ _ (fun q hq => h.hdd q (by omega)) j (by omega)
  · have hj2 : j < K.D - 1 := hj
    rw [f1b]
    exact zrmF_cg _ _ _ _ (fun q hq => h.hdp q (by omega)) j (by omega)
  · rw [f4 _ (by omega) (by omega) (by omega)]; exact h.hp i hi k hk
theorem k_addPerson {S : Nat × (Nat → Int32)} {d n b : Nat} {ξ : Nat → Nat → Int32} {ρ : zRho} {K : zCs} (hb : zisC b) (h : zXR ξ b K) (h6 : K.M < 6) (kd a wk : Int32) : Zc S (d + 2) jX0_addPerson [.ref b, .int kd, .int a, .int wk] (zWof n ξ ρ) (fun r w => r = some (.int (nI K.M)) ∧ ∃ ξ2, w = zWof n ξ2 ρ ∧ zXR ξ2 b (K.addP kd a wk) ∧ zfrA b ξ ξ2) := by
  refine Zc_mono (d := d + 1) (c_addPerson hb h.hm h6 kd a wk) ?_
  rintro r w ⟨e1, ξ2, e2, p0, p1, p2, p3, p4, p5, p6, f2, f3, f4⟩
  refine ⟨e1, ξ2, e2, ⟨?_, f2, ?_, ?_, fun i hi => ?_, fun j hj => ?_, fun j hj => ?_, fun i hi k hk => ?_⟩, fun a ha => f4 a (by omega) (by omega)⟩
  · rw [f3 4 (by decide)]; exact h.hd
  · rw [f3 6 (by decide)]; exact h.ht
  · rw [f3 7 (by decide)]; exact h.hz
  · rw [f4 _ (by omega) (by omega)]; exact h.hl i hi
  · rw [f4 _ (by omega) (by omega)]; exact h.hdd j hj
  · rw [f4 _ (by omega) (by omega)]; exact h.hdp j hj
  · show _ = (if i = K.M then znewp kd a wk else K.p i) k
    have hi2 : i < K.M + 1 := hi
    by_cases q : i = K.M
    · subst q
      rw [if_pos rfl]
      rcases (by omega : k = 0 ∨ k = 1 ∨ k = 2 ∨ k = 3 ∨ k = 4 ∨ k = 5 ∨ k = 6) with rfl | rfl | rfl | rfl | rfl | rfl | rfl
      · exact p0
      · exact p1
      · exact p2
      · exact p3
      · exact p4
      · exact p5
      · exact p6
    · rw [if_neg q, f4 _ (by omega) (by omega)]
      exact h.hp i (by omega) k hk
/-- a field of a PERSON written -/
theorem zXR.sp {ξ : Nat → Nat → Int32} {b : Nat} {K : zCs} (h : zXR ξ b K) {i k : Nat} (v : Int32) : zXR (zu ξ (b + 5 + i) k v) b (K.sp i k v) := by
  refine ⟨?_, ?_, ?_, ?_, fun j hj => ?_, fun j hj => ?_, fun j hj => ?_, fun j hj q hq => ?_⟩
  · rw [zun (by omega)]; exact h.hd
  · rw [zun (by omega)]; exact h.hm
  · rw [zun (by omega)]; exact h.ht
  · rw [zun (by omega)]; exact h.hz
  · rw [zun (by omega)]; exact h.hl j hj
  · rw [zun (by omega)]; exact h.hdd j hj
  · rw [zun (by omega)]; exact h.hdp j hj
  · show _ = (if j = i then upd (K.p i) k v else K.p j) q
    by_cases e : j = i
    · subst e
      rw [zup, if_pos rfl]
      unfold upd
      split
      · rfl
      · exact h.hp j hj q hq
    · rw [zun (by omega), if_neg e]
      exact h.hp j hj q hq
theorem zXR.sz {ξ : Nat → Nat → Int32} {b : Nat} {K : zCs} (h : zXR ξ b K) (v : Int32) : zXR (zu ξ b 7 v) b (K.sz v) := by
  refine ⟨?_, ?_, ?_, ?_, fun j hj => ?_, fun j hj => ?_, fun j hj => ?_, fun j hj q hq => ?_⟩
  · rw [zu_ne (Or.inr (by decide))]; exact h.hd
  · rw [zu_ne (Or.inr (by decide))]; exact h.hm
  · rw [zu_ne (Or.inr (by decide))]; exact h.ht
  · rw [zu_same]; rfl
  · rw [zun (by omega)]; exact h.hl j hj
  · rw [zun (by omega)]; exact h.hdd j hj
  · rw [zun (by omega)]; exact h.hdp j hj
  · rw [zun (by omega)]; exact h.hp j hj q hq
theorem zXR.slaw {ξ : Nat → Nat → Int32} {b : Nat} {K : zCs} (h : zXR ξ b K) (l : Nat) (v : Int32) : zXR (zu ξ (b + 1) l v) b (K.slaw l v) := by
  refine ⟨?_, ?_, ?_, ?_, fun j hj => ?_, fun j hj => ?_, fun j hj => ?_, fun j hj q hq => ?_⟩
  · rw [zun (by omega)]; exact h.hd
  · rw [zun (by omega)]; exact h.hm
  · rw [zun (by omega)]; exact h.ht
  · rw [zun (by omega)]; exact h.hz
  · rw [zup]
    show upd _ _ _ j = upd _ _ _ j
    unfold upd
    split
    · rfl
    · exact h.hl j hj
  · rw [zun (by omega)]; exact h.hdd j hj
  · rw [zun (by omega)]; exact h.hdp j hj
  · rw [zun (by omega)]; exact h.hp j hj q hq
set_option maxRecDepth 20000 in
set_option maxHeartbeats 1000000 in
theorem c_date {S : Nat × (Nat → Int32)} {d n : Nat} {ξ : Nat → Nat → Int32} {ρ : zRho} {K : zCs} (h : zXR ξ 1 K) (hK : zOK K) (day part : Int32) : Zc S (d + 2) jX5_date [.ref 0, .int day, .int part] (zWof n ξ ρ) (fun r w => ∃ ξ2, w = zWof n ξ2 ρ ∧ r = some (.int (K.date day part).2) ∧ zXR ξ2 1 (K.date day part).1 ∧ zfrA 1 ξ ξ2) := by
  have hd3 := hK.d3
  have hm6 := hK.m6
  have ht60 := hK.t60
  refine Zc_in (q := (5, 0, 1, 2, 3, 0, 0, zk_X5_date)) rfl (Nat.le_of_ble_eq_true rfl) (L := [_, _, _]) rfl ?_
  refine zr_iload_n 1 rfl rfl rfl ?_
  refine zr_if_lt 28 4 rfl rfl (by decide) (fun c1z => ?_) (fun c1z => ?_)
  · refine zr_iconst 29 (x := (-1)) rfl rfl (by decide) ?_
    refine zr_iret rfl rfl ?_
    refine ⟨ξ, rfl, ?_⟩
    rw [show K.date day part = _ from if_pos (Or.inl c1z)]
    exact ⟨rfl, h, fun _ _ => rfl⟩
  · refine zr_iload_n 5 rfl rfl rfl ?_
    refine zr_aload_n 6 rfl rfl rfl trivial ?_
    refine zr_getf 9 rfl rfl rfl rfl rfl ?_
    refine zr_getf 12 rfl rfl rfl rfl rfl ?_
    refine zr_iconst 13 (x := 0) rfl rfl (by decide) ?_
    refine zr_iald 14 (i := 0) rfl rfl rfl (by decide) (by unfold vp_in; decide) ?_
    refine zr_icmp_ge 28 17 rfl rfl (by decide) (fun c14z => ?_) (fun c14z => ?_)
    · refine zr_iconst 29 (x := (-1)) rfl rfl (by decide) ?_
      refine zr_iret rfl rfl ?_
      refine ⟨ξ, rfl, ?_⟩
      rw [show K.date day part = _ from if_pos (Or.inr (Or.inl (by rw [← h.hl 0 (by decide)]; exact c14z)))]
      exact ⟨rfl, h, fun _ _ => rfl⟩
    · refine zr_iload_n 18 rfl rfl rfl ?_
      refine zr_iconst 19 (x := 1) rfl rfl (by decide) ?_
      refine zr_icmp_lt 28 22 rfl rfl (by decide) (fun c19z => ?_) (fun c19z => ?_)
      · refine zr_iconst 29 (x := (-1)) rfl rfl (by decide) ?_
        refine zr_iret rfl rfl ?_
        refine ⟨ξ, rfl, ?_⟩
        rw [show K.date day part = _ from if_pos (Or.inr (Or.inr (Or.inl c19z)))]
        exact ⟨rfl, h, fun _ _ => rfl⟩
      · refine zr_iload_n 23 rfl rfl rfl ?_
        refine zr_bipush 25 (x := 99) rfl rfl (by decide) ?_
        refine zr_icmp_le 30 28 rfl rfl (by decide) (fun c25z => ?_) (fun c25z => ?_)
        · refine zr_aload_n 31 rfl rfl rfl trivial ?_
          refine zr_getf 34 rfl rfl rfl rfl rfl ?_
          refine zr_iload_n 35 rfl rfl rfl ?_
          refine zr_callv 38 (As := [_]) (u2 := (0, 0)) rfl rfl rfl rfl rfl rfl rfl (Nat.le_of_ble_eq_true rfl) (Nat.le_of_ble_eq_true rfl) (Nat.le_of_ble_eq_true rfl) rfl (c_hasDateOn zc1 h.hd hd3 _) rfl (fun v2 w2 h35z => ?_)
          obtain ⟨rfl, rfl⟩ := h35z
          refine zr_if_eq 44 41 rfl rfl (by decide) (fun c38z => ?_) (fun c38z => ?_)
          · replace c38z := zb_0.mp c38z
            rw [h.hasD] at c38z
            refine zr_aload_n 45 rfl rfl rfl trivial ?_
            refine zr_getf 48 rfl rfl rfl rfl rfl ?_
            refine zr_getf 51 rfl rfl rfl rfl rfl ?_
            refine zr_iconst 52 (x := 3) rfl rfl (by decide) ?_
            refine zr_icmp_lt 58 55 rfl rfl (by decide) (fun c52z => ?_) (fun c52z => ?_)
            · have hD3 : K.D < 3 := by
                rw [h.hd] at c52z
                exact (nI_ltI (b := 3) (by omega) (by decide)).mp c52z
              refine zr_aload_n 59 rfl rfl rfl trivial ?_
              refine zr_getf 62 rfl rfl rfl rfl rfl ?_
              refine zr_iload_n 63 rfl rfl rfl ?_
              refine zr_iload_n 64 rfl rfl rfl ?_
              refine zr_callv 67 (As := [_, _]) (u2 := (0, 0)) rfl rfl rfl rfl rfl rfl rfl (Nat.le_of_ble_eq_true rfl) (Nat.le_of_ble_eq_true rfl) (Nat.le_of_ble_eq_true rfl) rfl (k_addDate zc1 h hD3 hm6 _ _) rfl (fun v2 w2 h64z => ?_)
              obtain ⟨rfl, ξ2, rfl, x2, f2⟩ := h64z
              refine zr_aload_n 68 rfl rfl rfl trivial ?_
              refine zr_getf 71 rfl rfl rfl rfl rfl ?_
              refine zr_getf 74 rfl rfl rfl rfl rfl ?_
              refine zr_iret rfl rfl ?_
              have hg : ¬ (day < 0 ∨ K.law 0 ≤ day ∨ part < 1 ∨ 99 < part) := by
                rw [← h.hl 0 (by decide)]
                rintro (q | q | q | q)
                · exact c1z q
                · exact c14z q
                · exact c19z q
                · exact absurd c25z (Int32.not_le.mpr q)
              refine ⟨ξ2, rfl, ?_⟩
              rw [show K.date day part = _ from (if_neg hg).trans ((if_neg c38z).trans (if_neg (by omega)))]
              refine ⟨?_, x2, f2⟩
              rw [x2.hd]
              rfl
            · have hD3 : 3 ≤ K.D := by
                rw [h.hd] at c52z
                exact Nat.le_of_not_lt (fun q => c52z ((nI_ltI (b := 3) (by omega) (by decide)).mpr q))
              refine zr_bipush 57 (x := (-2)) rfl rfl (by decide) ?_
              refine zr_iret rfl rfl ?_
              have hg : ¬ (day < 0 ∨ K.law 0 ≤ day ∨ part < 1 ∨ 99 < part) := by
                rw [← h.hl 0 (by decide)]
                rintro (q | q | q | q)
                · exact c1z q
                · exact c14z q
                · exact c19z q
                · exact absurd c25z (Int32.not_le.mpr q)
              refine ⟨ξ, rfl, ?_⟩
              rw [show K.date day part = _ from (if_neg hg).trans ((if_neg c38z).trans (if_pos hD3))]
              exact ⟨rfl, h, fun _ _ => rfl⟩
          · replace c38z := zb_n0.mp c38z
            rw [h.hasD] at c38z
            refine zr_bipush 43 (x := (-4)) rfl rfl (by decide) ?_
            refine zr_iret rfl rfl ?_
            have hg : ¬ (day < 0 ∨ K.law 0 ≤ day ∨ part < 1 ∨ 99 < part) := by
              rw [← h.hl 0 (by decide)]
              rintro (q | q | q | q)
              · exact c1z q
              · exact c14z q
              · exact c19z q
              · exact absurd c25z (Int32.not_le.mpr q)
            refine ⟨ξ, rfl, ?_⟩
            rw [show K.date day part = _ from (if_neg hg).trans (if_pos c38z)]
            exact ⟨rfl, h, fun _ _ => rfl⟩
        · refine zr_iconst 29 (x := (-1)) rfl rfl (by decide) ?_
          refine zr_iret rfl rfl ?_
          refine ⟨ξ, rfl, ?_⟩
          rw [show K.date day part = _ from if_pos (Or.inr (Or.inr (Or.inr (Int32.not_le.mp c25z))))]
          exact ⟨rfl, h, fun _ _ => rfl⟩
set_option maxRecDepth 20000 in
set_option maxHeartbeats 1000000 in
theorem c_strike {S : Nat × (Nat → Int32)} {d n : Nat} {ξ : Nat → Nat → Int32} {ρ : zRho} {K : zCs} (h : zXR ξ 1 K) (hK : zOK K) (x : Int32) : Zc S (d + 2) jX5_strike [.ref 0, .int x] (zWof n ξ ρ) (fun r w => ∃ ξ2, w = zWof n ξ2 ρ ∧ r = some (.int (K.strike x).2) ∧ zXR ξ2 1 (K.strike x).1 ∧ zfrA 1 ξ ξ2) := by
  have hd3 := hK.d3
  have hm6 := hK.m6
  have ht60 := hK.t60
  refine Zc_in (q := (5, 0, 1, 1, 2, 0, 0, zk_X5_strike)) rfl (Nat.le_of_ble_eq_true rfl) (L := [_, _]) rfl ?_
  refine zr_iload_n 1 rfl rfl rfl ?_
  refine zr_if_lt 15 4 rfl rfl (by decide) (fun c1z => ?_) (fun c1z => ?_)
  · refine zr_iconst 16 (x := (-1)) rfl rfl (by decide) ?_
    refine zr_iret rfl rfl ?_
    refine ⟨ξ, rfl, ?_⟩
    rw [show K.strike x = _ from if_neg (fun q => absurd q.1 (Int32.not_le.mpr c1z))]
    exact ⟨rfl, h, fun _ _ => rfl⟩
  · refine zr_iload_n 5 rfl rfl rfl ?_
    refine zr_aload_n 6 rfl rfl rfl trivial ?_
    refine zr_getf 9 rfl rfl rfl rfl rfl ?_
    refine zr_getf 12 rfl rfl rfl rfl rfl ?_
    refine zr_icmp_lt 17 15 rfl rfl (by decide) (fun c12z => ?_) (fun c12z => ?_)
    · obtain ⟨i, hi, rfl⟩ := zperI h.hd (by omega) ⟨Int32.not_lt.mp c1z, c12z⟩
      refine zr_aload_n 18 rfl rfl rfl trivial ?_
      refine zr_getf 21 rfl rfl rfl rfl rfl ?_
      refine zr_iload_n 22 rfl rfl rfl ?_
      refine zr_callv 25 (As := [_]) (u2 := (0, 0)) rfl rfl rfl rfl rfl rfl rfl (Nat.le_of_ble_eq_true rfl) (Nat.le_of_ble_eq_true rfl) (Nat.le_of_ble_eq_true rfl) rfl (k_cutDate zc1 h hd3 hm6 hi) rfl (fun v2 w2 h22z => ?_)
      obtain ⟨rfl, ξ2, rfl, x2, f2⟩ := h22z
      refine zr_aload_n 26 rfl rfl rfl trivial ?_
      refine zr_getf 29 rfl rfl rfl rfl rfl ?_
      refine zr_getf 32 rfl rfl rfl rfl rfl ?_
      refine zr_iret rfl rfl ?_
      refine ⟨ξ2, rfl, ?_⟩
      rw [show K.strike (nI i) = (K.cutD i, nI (K.D - 1)) by
        unfold zCs.strike
        rw [if_pos ⟨nI_pos' (by omega), nI_lt hi (by omega)⟩, nI_clamp (by omega)]]
      exact ⟨by rw [x2.hd]; rfl, x2, f2⟩
    · refine zr_iconst 16 (x := (-1)) rfl rfl (by decide) ?_
      refine zr_iret rfl rfl ?_
      refine ⟨ξ, rfl, ?_⟩
      rw [show K.strike x = _ from if_neg (fun q => c12z (by rw [h.hd]; exact q.2))]
      exact ⟨rfl, h, fun _ _ => rfl⟩
set_option maxRecDepth 20000 in
set_option maxHeartbeats 1000000 in
theorem c_person {S : Nat × (Nat → Int32)} {d n : Nat} {ξ : Nat → Nat → Int32} {ρ : zRho} {K : zCs} (h : zXR ξ 1 K) (hK : zOK K) (kd a wk : Int32) : Zc S (d + 3) jX5_person [.ref 0, .int kd, .int a, .int wk] (zWof n ξ ρ) (fun r w => ∃ ξ2, w = zWof n ξ2 ρ ∧ r = some (.int (K.person kd a wk).2) ∧ zXR ξ2 1 (K.person kd a wk).1 ∧ zfrA 1 ξ ξ2) := by
  have hd3 := hK.d3
  have hm6 := hK.m6
  have ht60 := hK.t60
  refine Zc_in (q := (5, 0, 1, 3, 4, 0, 0, zk_X5_person)) rfl (Nat.le_of_ble_eq_true rfl) (L := [_, _, _, _]) rfl ?_
  refine zr_iload_n 1 rfl rfl rfl ?_
  refine zr_calls 4 (As := [_]) (u2 := (0, 0)) rfl rfl rfl rfl rfl rfl rfl (Nat.le_of_ble_eq_true rfl) (Nat.le_of_ble_eq_true rfl) (Nat.le_of_ble_eq_true rfl) (c_isKind _) rfl (fun v2 w2 h1z => ?_)
  obtain ⟨rfl, rfl⟩ := h1z
  refine zr_if_eq 25 7 rfl rfl (by decide) (fun c4z => ?_) (fun c4z => ?_)
  · replace c4z := zb_0.mp c4z
    refine zr_iconst 26 (x := (-1)) rfl rfl (by decide) ?_
    refine zr_iret rfl rfl ?_
    refine ⟨ξ, rfl, ?_⟩
    rw [show K.person kd a wk = _ from if_neg (fun q => c4z q.1)]
    exact ⟨rfl, h, fun _ _ => rfl⟩
  · replace c4z := zb_n0.mp c4z
    refine zr_iload_n 8 rfl rfl rfl ?_
    refine zr_calls 11 (As := [_]) (u2 := (0, 0)) rfl rfl rfl rfl rfl rfl rfl (Nat.le_of_ble_eq_true rfl) (Nat.le_of_ble_eq_true rfl) (Nat.le_of_ble_eq_true rfl) (c_isA _) rfl (fun v2 w2 h8z => ?_)
    obtain ⟨rfl, rfl⟩ := h8z
    refine zr_if_eq 25 14 rfl rfl (by decide) (fun c11z => ?_) (fun c11z => ?_)
    · replace c11z := zb_0.mp c11z
      refine zr_iconst 26 (x := (-1)) rfl rfl (by decide) ?_
      refine zr_iret rfl rfl ?_
      refine ⟨ξ, rfl, ?_⟩
      rw [show K.person kd a wk = _ from if_neg (fun q => c11z q.2.1)]
      exact ⟨rfl, h, fun _ _ => rfl⟩
    · replace c11z := zb_n0.mp c11z
      refine zr_iload_n 15 rfl rfl rfl ?_
      refine zr_iconst 16 (x := 1) rfl rfl (by decide) ?_
      refine zr_icmp_lt 25 19 rfl rfl (by decide) (fun c16z => ?_) (fun c16z => ?_)
      · refine zr_iconst 26 (x := (-1)) rfl rfl (by decide) ?_
        refine zr_iret rfl rfl ?_
        refine ⟨ξ, rfl, ?_⟩
        rw [show K.person kd a wk = _ from if_neg (fun q => absurd q.2.2.1 (Int32.not_le.mpr c16z))]
        exact ⟨rfl, h, fun _ _ => rfl⟩
      · refine zr_iload_n 20 rfl rfl rfl ?_
        refine zr_bipush 22 (x := 99) rfl rfl (by decide) ?_
        refine zr_icmp_le 27 25 rfl rfl (by decide) (fun c22z => ?_) (fun c22z => ?_)
        · refine zr_aload_n 28 rfl rfl rfl trivial ?_
          refine zr_getf 31 rfl rfl rfl rfl rfl ?_
          refine zr_getf 34 rfl rfl rfl rfl rfl ?_
          refine zr_bipush 36 (x := 6) rfl rfl (by decide) ?_
          refine zr_icmp_ge 52 39 rfl rfl (by decide) (fun c36z => ?_) (fun c36z => ?_)
          · have hM6 : ¬ K.M < 6 := by
              rw [h.hm] at c36z
              exact Nat.not_lt.mpr ((nI_leI (a := 6) (by decide) (by omega)).mp c36z)
            refine zr_bipush 54 (x := (-2)) rfl rfl (by decide) ?_
            refine zr_iret rfl rfl ?_
            have hp : zpar kd a wk := ⟨c4z, c11z, Int32.not_lt.mp c16z, c22z⟩
            refine ⟨ξ, rfl, ?_⟩
            rw [show K.person kd a wk = _ from (if_pos hp).trans (if_neg hM6)]
            exact ⟨rfl, h, fun _ _ => rfl⟩
          · have hM6 : K.M < 6 := by
              rw [h.hm] at c36z
              exact Nat.lt_of_not_le (fun q => c36z ((nI_leI (a := 6) (by decide) (by omega)).mpr q))
            refine zr_aload_n 40 rfl rfl rfl trivial ?_
            refine zr_getf 43 rfl rfl rfl rfl rfl ?_
            refine zr_iload_n 44 rfl rfl rfl ?_
            refine zr_iload_n 45 rfl rfl rfl ?_
            refine zr_iload_n 46 rfl rfl rfl ?_
            refine zr_callv 49 (As := [_, _, _]) (u2 := (0, 0)) rfl rfl rfl rfl rfl rfl rfl (Nat.le_of_ble_eq_true rfl) (Nat.le_of_ble_eq_true rfl) (Nat.le_of_ble_eq_true rfl) rfl (k_addPerson zc1 h hM6 _ _ _) rfl (fun v2 w2 h46z => ?_)
            obtain ⟨rfl, ξ2, rfl, x2, f2⟩ := h46z
            refine zr_goto 54 rfl (by decide) ?_
            refine zr_iret rfl rfl ?_
            have hp : zpar kd a wk := ⟨c4z, c11z, Int32.not_lt.mp c16z, c22z⟩
            refine ⟨ξ2, rfl, ?_⟩
            rw [show K.person kd a wk = _ from (if_pos hp).trans (if_pos hM6)]
            exact ⟨rfl, x2, f2⟩
        · refine zr_iconst 26 (x := (-1)) rfl rfl (by decide) ?_
          refine zr_iret rfl rfl ?_
          refine ⟨ξ, rfl, ?_⟩
          rw [show K.person kd a wk = _ from if_neg (fun q => c22z q.2.2.2)]
          exact ⟨rfl, h, fun _ _ => rfl⟩
