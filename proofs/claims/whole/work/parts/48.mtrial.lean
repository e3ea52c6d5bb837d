theorem zfirstF_cg {P Q : Nat → Prop} [DecidablePred P] [DecidablePred Q] : ∀ n j, (∀ v, j ≤ v → v < j + n → (P v ↔ Q v)) → zfirstF P n j = zfirstF Q n j
  | 0, _, _ => rfl
  | n + 1, j, h => by
    have e := h j (Nat.le_refl _) (by omega)
    rw [zfirstF, zfirstF, zfirstF_cg n (j + 1) (fun v h1 h2 => h v (by omega) (by omega))]
    by_cases q : P j
    · rw [if_pos q, if_pos (e.mp q)]
    · rw [if_neg q, if_neg (fun z => q (e.mpr z))]
theorem zfirstF_no {P : Nat → Prop} [DecidablePred P] : ∀ n j, (∀ v, j ≤ v → v < j + n → ¬ P v) → zfirstF P n j = -3
  | 0, _, _ => rfl
  | n + 1, j, h => by
    rw [zfirstF, if_neg (h j (Nat.le_refl _) (by omega)), zfirstF_no n (j + 1) (fun v h1 h2 => h v (by omega) (by omega))]
theorem zsp_back (K : zCs) (i k : Nat) (v : Int32) : (K.sp i k v).sp i k (K.p i k) = K := by
  have e : (fun j => if j = i then upd (if i = i then upd (K.p i) k v else K.p i) k (K.p i k) else (if j = i then upd (K.p i) k v else K.p j)) = K.p := by
    funext j
    by_cases q : j = i
    · subst q
      rw [if_pos rfl, if_pos rfl]
      funext k2
      unfold upd
      by_cases z : k2 = k
      · subst z
        rw [if_pos rfl]
      · rw [if_neg z, if_neg z]
    · rw [if_neg q, if_neg q]
  show (K.D, K.M, K.T, K.z, K.law, K.dd, K.dp, fun j => if j = i then upd (if i = i then upd (K.p i) k v else K.p i) k (K.p i k) else (if j = i then upd (K.p i) k v else K.p j)) = K
  rw [e]
theorem zslaw_back (K : zCs) (l : Nat) (v : Int32) : (K.slaw l v).slaw l (K.law l) = K := by rw [zslaw2, zslaw_same]
theorem zmk_slaw (K : zCs) (i : Nat) (v : Int32) : ((K.slaw 2 v).go 60).mk' i < 0 ↔ (K.go 60).mk' i < 0 := by
  rw [zmk_neg, zmk_neg]
  exact Iff.rfl
theorem zbit1 (x : Int32) : x &&& 1 = 0 ∨ x &&& 1 = 1 := by
  have e : (x &&& 1).toBitVec = x.toBitVec &&& 1#32 := rfl
  have h : (x.toBitVec &&& 1#32).toNat = x.toBitVec.toNat % 2 := by
    rw [BitVec.toNat_and]
    exact Nat.and_one_is_mod _
  rcases Nat.mod_two_eq_zero_or_one x.toBitVec.toNat with q | q
  · left
    refine Int32.toBitVec_inj.mp ?_
    rw [e]
    exact BitVec.eq_of_toNat_eq (by rw [h, q]; rfl)
  · right
    refine Int32.toBitVec_inj.mp ?_
    rw [e]
    exact BitVec.eq_of_toNat_eq (by rw [h, q]; rfl)
theorem zbit1n (x : Int32) : ¬ x &&& 1 = 0 ↔ x &&& 1 = 1 := by
  rcases zbit1 x with q | q
  · rw [q]; decide
  · rw [q]; decide
theorem zsumF_b {f : Nat → Int32} : ∀ M, M ≤ 6 → (∀ i, i < M → 0 ≤ (f i).toInt ∧ (f i).toInt ≤ 120) → 0 ≤ (zsumF f M).toInt ∧ (zsumF f M).toInt ≤ 120 * M
  | 0, _, _ => by rw [zsumF]; decide
  | M + 1, h6, h => by
    have a := zsumF_b M (by omega) (fun i hi => h i (by omega))
    have b := h M (by omega)
    rw [zsumF, zTadd (by omega) (by omega)]
    omega
theorem zsum_pos (K : zCs) (h6 : K.M ≤ 6) : 0 ≤ K.sum := by
  have a := zsumF_b (f := fun i => zpos0 (K.mk' i)) K.M h6 (fun i _ => by
    show 0 ≤ (zpos0 (K.mk' i)).toInt ∧ (zpos0 (K.mk' i)).toInt ≤ 120
    unfold zpos0
    by_cases q : 0 < K.mk' i
    · rw [if_pos q]
      have e1 := Int32.lt_iff_toInt_lt.mp q
      have e2 := Int32.le_iff_toInt_le.mp (zmk_le120 K i)
      rw [zI0] at e1
      rw [show (120 : Int32).toInt = 120 by decide] at e2
      omega
    · rw [if_neg q]
      decide)
  rw [Int32.le_iff_toInt_le, zI0]
  exact a.1
/-! a DATE told and struck again -/
theorem zadd_at {day part : Int32} : ∀ (D : Nat) (f : (Nat → Int32) × (Nat → Int32)), ∃ i, i ≤ D ∧ (zaddF day part D f).1 i = day ∧ (∀ j, j < i → (zaddF day part D f).1 j = f.1 j ∧ (zaddF day part D f).2 j = f.2 j) ∧ ∀ j, i < j → j ≤ D → (zaddF day part D f).1 j = f.1 (j - 1) ∧ (zaddF day part D f).2 j = f.2 (j - 1)
  | 0, f => ⟨0, Nat.le_refl _, by rw [zaddF]; exact (show upd f.1 0 day 0 = day from if_pos rfl), fun j hj => absurd hj (Nat.not_lt_zero _), fun j h1 h2 => by omega⟩
  | D + 1, f => by
    rw [zaddF]
    by_cases q : f.1 D ≤ day
    · rw [if_pos q]
      exact ⟨D + 1, Nat.le_refl _, if_pos rfl, fun j hj => ⟨if_neg (by omega), if_neg (by omega)⟩, fun j h1 h2 => by omega⟩
    · rw [if_neg q]
      obtain ⟨i, h1, h2, h3, h4⟩ := zadd_at (day := day) (part := part) D (upd f.1 (D + 1) (f.1 D), upd f.2 (D + 1) (f.2 D))
      refine ⟨i, by omega, h2, fun j hj => ?_, fun j h5 h6 => ?_⟩
      · obtain ⟨a, b⟩ := h3 j hj
        rw [a, b]
        exact ⟨if_neg (by omega), if_neg (by omega)⟩
      · by_cases e : j = D + 1
        · subst e
          have g := zaddF_hi (day := day) (part := part) D (upd f.1 (D + 1) (f.1 D), upd f.2 (D + 1) (f.2 D)) (D + 1) (by omega)
          rw [g.1, g.2]
          exact ⟨if_pos rfl, if_pos rfl⟩
        · obtain ⟨a, b⟩ := h4 j h5 (by omega)
          rw [a, b]
          exact ⟨if_neg (by omega), if_neg (by omega)⟩
theorem zrmF_at : ∀ (n k : Nat) (f : Nat → Int32) (j : Nat), zrmF n k f j = if k ≤ j ∧ j < k + n then f (j + 1) else f j
  | 0, k, f, j => by
    rw [zrmF, if_neg (by omega)]
  | n + 1, k, f, j => by
    rw [zrmF, zrmF_at n (k + 1)]
    unfold upd
    by_cases q : k + 1 ≤ j ∧ j < k + 1 + n
    · rw [if_pos q, if_neg (by omega), if_pos (by omega)]
    · rw [if_neg q]
      by_cases e : j = k
      · subst e
        rw [if_pos rfl, if_pos (by omega)]
      · rw [if_neg e, if_neg (by omega)]
theorem zaddcut {K : zCs} {day : Int32} (hn : ¬ K.has day) : ∃ i, i ≤ K.D ∧ (K.addD day 50).dd i = day ∧ (∀ j, j < i → ¬ (K.addD day 50).dd j = day) ∧ ∀ j, j < K.D → ((K.addD day 50).cutD i).dd j = K.dd j ∧ ((K.addD day 50).cutD i).dp j = K.dp j := by
  obtain ⟨i, h1, h2, h3, h4⟩ := zadd_at (day := day) (part := 50) K.D (K.dd, K.dp)
  refine ⟨i, h1, h2, fun j hj q => hn ⟨j, by omega, ((h3 j hj).1).symm.trans q⟩, fun j hj => ?_⟩
  show zrmF (K.D + 1 - 1 - i) i (zaddF day 50 K.D (K.dd, K.dp)).1 j = K.dd j ∧ zrmF (K.D + 1 - 1 - i) i (zaddF day 50 K.D (K.dd, K.dp)).2 j = K.dp j
  rw [zrmF_at, zrmF_at]
  by_cases q : j < i
  · rw [if_neg (by omega), if_neg (by omega)]
    exact h3 j q
  · rw [if_pos (by omega), if_pos (by omega)]
    exact h4 (j + 1) (by omega) (by omega)
theorem zMR.cgd {ξ : Nat → Nat → Int32} {ao : Nat} {K K2 : zCs} (h : zMR ξ ao K2) (e1 : K2.D = K.D) (e2 : ∀ j, j < K.D → K2.dd j = K.dd j ∧ K2.dp j = K.dp j) (eM : K2.M = K.M) (eT : K2.T = K.T) (ez : K2.z = K.z) (el : K2.law = K.law) (ep : K2.p = K.p) : zMR ξ ao K := by
  obtain ⟨a1, a2, a3, a4, a5, a6, a7, a8, a9, a10, a11⟩ := h
  rw [e1] at a3 a8 a9
  rw [eM] at a4 a10 a11
  rw [eT] at a5
  rw [ez] at a6
  rw [el] at a7
  rw [ep] at a10 a11
  exact ⟨a1, a2, a3, a4, a5, a6, a7, fun i hi => (a8 i hi).trans (e2 i hi).1, fun i hi => (a9 i hi).trans (e2 i hi).2, a10, a11⟩
set_option maxRecDepth 20000 in
set_option maxHeartbeats 1000000 in
theorem c_Menough {S : Nat × (Nat → Int32)} {d n : Nat} {ξ : Nat → Nat → Int32} {ρ : zRho} {K : zCs} (h : zMR ξ 0 K) (hK : zOK K) (x mk : Int32) : Zc S (d + 9) jX6_enough [.ref 42, .int x, .int mk] (zWof n ξ ρ) (fun r w => ∃ ξ2, w = zWof n ξ2 ρ ∧ r = some (.int ((if mk < 1 ∨ 120 < mk then -1 else zper K x (K.enou mk)))) ∧ zMR ξ2 0 K ∧ zfm ξ ξ2) := by
  have hd3 := hK.d3
  have hm6 := hK.m6
  have ht60 := hK.t60
  refine Zc_in (q := (6, 0, 1, 2, 7, 0, 0, zk_X6_enough)) rfl (Nat.le_of_ble_eq_true rfl) (L := [_, _, _, _, _, _, _]) rfl ?_
  have key : ∀ (k : Nat) (i : Nat) (j : Nat) (fo : Int32) (ξ1 : Nat → Nat → Int32), j = k → zMR (zu ξ1 43 2 (K.law 2)) 0 K → zfm ξ ξ1 → i < K.M → j ≤ 31 → ¬ (mk < 1 ∨ 120 < mk) → fo = zfirstF (fun v => 0 ≤ ((K.slaw 2 (nI v)).go 60).mk' i ∧ ((K.slaw 2 (nI v)).go 60).mk' i < mk) (31 - j) j →  Zw S (Zc S (d + 8)) 6 false 1 zk_X6_enough (fun r w => ∃ ξ2, w = zWof n ξ2 ρ ∧ r = some (.int ((if mk < 1 ∨ 120 < mk then -1 else zper K (nI i) (K.enou mk)))) ∧ zMR ξ2 0 K ∧ zfm ξ ξ2) (35, [some (.ref 42), some (.int (nI i)), some (.int mk), some (.int (K.law 2)), some (.int fo), some (.int (nI j - 1)), none], [], (0, 0), zWof n ξ1 ρ) := by
    intro k
    induction k using Nat.strongRecOn with
    | ind k ih =>
      intro i j fo ξ1 hk m1 f1 hi hj hmk ef
      refine zr_iload 37 rfl rfl rfl ?_
      refine zr_if_lt 81 40 rfl rfl (by decide) (fun c37z => ?_) (fun c37z => ?_)
      · have hj0 : j = 0 := (zjm (by omega)).mp c37z
        refine zr_aload_n 82 rfl rfl rfl trivial ?_
        refine zr_getf 85 rfl rfl rfl rfl rfl ?_
        refine zr_iconst 86 (x := 2) rfl rfl (by decide) ?_
        refine zr_iload_n 87 rfl rfl rfl ?_
        refine zr_iast 88 (i := 2) rfl rfl rfl (by decide) (by unfold vp_in; decide) (zW_set rfl) ?_
        refine zr_iload 90 rfl rfl rfl ?_
        refine zr_iret rfl rfl ?_
        refine ⟨_, rfl, ?_, m1, f1.u 43 2 _ (by decide)⟩
        rw [if_neg hmk, zper_in hm6 hi, ef, hj0, zCs.enou]
        by_cases q : (K.go 60).mk' i < 0
        · rw [if_pos q, zfirstF_no]
          intro v _ _ z
          exact absurd z.1 (Int32.not_le.mpr ((zmk_slaw K i (nI v)).mpr q))
        · rw [if_neg q]
          congr 1
          congr 1
          exact zfirstF_cg _ _ (fun v _ _ => ⟨fun z => z.2, fun z => ⟨Int32.not_lt.mp (fun y => q ((zmk_slaw K i (nI v)).mp y)), z⟩⟩)
      · have hj0 : ¬ j = 0 := fun q => c37z ((zjm (by omega)).mpr q)
        obtain ⟨j2, rfl⟩ : ∃ z, j = z + 1 := ⟨j - 1, by omega⟩
        rw [nI_pred]
        have m2 := m1.slaw 2 (nI j2)
        rw [zuu] at m2
        refine zr_aload_n 41 rfl rfl rfl trivial ?_
        refine zr_getf 44 rfl rfl rfl rfl rfl ?_
        refine zr_iconst 45 (x := 2) rfl rfl (by decide) ?_
        refine zr_iload 47 rfl rfl rfl ?_
        refine zr_iast 48 (i := 2) rfl rfl rfl (by decide) (by unfold vp_in; decide) (zW_set rfl) ?_
        refine zr_aload_n 49 rfl rfl rfl trivial ?_
        refine zr_iload_n 50 rfl rfl rfl ?_
        refine zr_callv 53 (As := [_]) (u2 := (0, 0)) rfl rfl rfl rfl rfl rfl rfl (Nat.le_of_ble_eq_true rfl) (Nat.le_of_ble_eq_true rfl) (Nat.le_of_ble_eq_true rfl) rfl (c_MmarkThen m2 (hK.pen (by rw [nI_toInt (by omega)]; omega)) hi) rfl (fun v2 w2 h50z => ?_)
        obtain ⟨rfl, ξ2, rfl, f2⟩ := h50z
        have m3 := (f2.mr m2 hm6).slaw 2 (K.law 2)
        rw [zslaw_back] at m3
        have g2 := (f1.u 43 2 (nI j2) (by decide)).tr f2.fm
        have es : zfirstF (fun v => 0 ≤ ((K.slaw 2 (nI v)).go 60).mk' i ∧ ((K.slaw 2 (nI v)).go 60).mk' i < mk) (31 - j2) j2 = if 0 ≤ ((K.slaw 2 (nI j2)).go 60).mk' i ∧ ((K.slaw 2 (nI j2)).go 60).mk' i < mk then nI j2 else fo := by
          rw [show 31 - j2 = 31 - (j2 + 1) + 1 by omega, zfirstF, ← ef]
        refine zr_istore 55 (L2 := [_, _, _, _, _, _, _]) rfl rfl (Nat.le_of_ble_eq_true rfl) (by first | exact trivial | exact rfl) rfl ?_
        refine zr_iload 57 rfl rfl rfl ?_
        refine zr_if_lt 71 60 rfl rfl (by decide) (fun c57z => ?_) (fun c57z => ?_)
        · refine zr_iload 73 rfl rfl rfl ?_
          refine zr_istore 75 (L2 := [_, _, _, _, _, _, _]) rfl rfl (Nat.le_of_ble_eq_true rfl) (by first | exact trivial | exact rfl) rfl ?_
          refine zr_iinc 78 (c0 := (-1)) (L2 := [_, _, _, _, _, _, _]) rfl rfl rfl (by first | exact trivial | exact rfl) (by decide) rfl ?_
          refine zr_goto 35 rfl (by decide) ?_
          rw [znm1]
          refine zs_forget (L' := [_, _, _, _, _, _, none]) (zsub_s (zsub_s (zsub_s (zsub_s (zsub_s (zsub_s (zsub_n zsub_0))))))) ?_
          refine ih _ (by omega) i j2 _ ξ2 rfl m3 g2 hi (by omega) hmk ?_
          rw [es, if_neg (fun q => absurd q.1 (Int32.not_le.mpr c57z))]
        · refine zr_iload 62 rfl rfl rfl ?_
          refine zr_iload_n 63 rfl rfl rfl ?_
          refine zr_icmp_ge 71 66 rfl rfl (by decide) (fun c63z => ?_) (fun c63z => ?_)
          · refine zr_iload 73 rfl rfl rfl ?_
            refine zr_istore 75 (L2 := [_, _, _, _, _, _, _]) rfl rfl (Nat.le_of_ble_eq_true rfl) (by first | exact trivial | exact rfl) rfl ?_
            refine zr_iinc 78 (c0 := (-1)) (L2 := [_, _, _, _, _, _, _]) rfl rfl rfl (by first | exact trivial | exact rfl) (by decide) rfl ?_
            refine zr_goto 35 rfl (by decide) ?_
            rw [znm1]
            refine zs_forget (L' := [_, _, _, _, _, _, none]) (zsub_s (zsub_s (zsub_s (zsub_s (zsub_s (zsub_s (zsub_n zsub_0))))))) ?_
            refine ih _ (by omega) i j2 _ ξ2 rfl m3 g2 hi (by omega) hmk ?_
            rw [es, if_neg (fun q => absurd q.2 (Int32.not_lt.mpr c63z))]
          · refine zr_iload 68 rfl rfl rfl ?_
            refine zr_goto 73 rfl (by decide) ?_
            refine zr_istore 75 (L2 := [_, _, _, _, _, _, _]) rfl rfl (Nat.le_of_ble_eq_true rfl) (by first | exact trivial | exact rfl) rfl ?_
            refine zr_iinc 78 (c0 := (-1)) (L2 := [_, _, _, _, _, _, _]) rfl rfl rfl (by first | exact trivial | exact rfl) (by decide) rfl ?_
            refine zr_goto 35 rfl (by decide) ?_
            rw [znm1]
            refine zs_forget (L' := [_, _, _, _, _, _, none]) (zsub_s (zsub_s (zsub_s (zsub_s (zsub_s (zsub_s (zsub_n zsub_0))))))) ?_
            refine ih _ (by omega) i j2 _ ξ2 rfl m3 g2 hi (by omega) hmk ?_
            rw [es, if_pos ⟨Int32.not_lt.mp c57z, Int32.not_le.mp c63z⟩]
  refine zr_aload_n 1 rfl rfl rfl trivial ?_
  refine zr_iload_n 2 rfl rfl rfl ?_
  refine zr_callv 5 (As := [_]) (u2 := (0, 0)) rfl rfl rfl rfl rfl rfl rfl (Nat.le_of_ble_eq_true rfl) (Nat.le_of_ble_eq_true rfl) (Nat.le_of_ble_eq_true rfl) rfl (c_MisPerson h hK _) rfl (fun v2 w2 h2z => ?_)
  obtain ⟨rfl, rfl⟩ := h2z
  refine zr_if_eq 18 8 rfl rfl (by decide) (fun c5z => ?_) (fun c5z => ?_)
  · replace c5z := zb_0.mp c5z
    refine zr_iconst 19 (x := (-1)) rfl rfl (by decide) ?_
    refine zr_iret rfl rfl ?_
    refine ⟨ξ, rfl, ?_, h, zfm.rf _⟩
    by_cases q : mk < 1 ∨ 120 < mk
    · rw [if_pos q]
    · rw [if_neg q, zper_out rfl _ c5z]
  · replace c5z := zb_n0.mp c5z
    refine zr_iload_n 9 rfl rfl rfl ?_
    refine zr_iconst 10 (x := 1) rfl rfl (by decide) ?_
    refine zr_bipush 12 (x := 120) rfl rfl (by decide) ?_
    refine zr_calls 15 (As := [_, _, _]) (u2 := (0, 0)) rfl rfl rfl rfl rfl rfl rfl (Nat.le_of_ble_eq_true rfl) (Nat.le_of_ble_eq_true rfl) (Nat.le_of_ble_eq_true rfl) (c_Min _ _ _) rfl (fun v2 w2 h12z => ?_)
    obtain ⟨rfl, rfl⟩ := h12z
    refine zr_if_ne 20 18 rfl rfl (by decide) (fun c15z => ?_) (fun c15z => ?_)
    · replace c15z := zb_n0.mp c15z
      obtain ⟨i, hi, rfl⟩ := zperI rfl (by omega) c5z
      refine zr_aload_n 21 rfl rfl rfl trivial ?_
      refine zr_getf 24 rfl rfl rfl rfl rfl ?_
      refine zr_iconst 25 (x := 2) rfl rfl (by decide) ?_
      refine zr_iald 26 (i := 2) rfl rfl rfl (by decide) (by unfold vp_in; decide) ?_
      rw [h.hl 2 (by decide)]
      refine zr_istore_n 27 (L2 := [_, _, _, _, _, _, _]) rfl rfl (Nat.le_of_ble_eq_true rfl) (by first | exact trivial | exact rfl) rfl ?_
      refine zr_bipush 29 (x := (-3)) rfl rfl (by decide) ?_
      refine zr_istore 31 (L2 := [_, _, _, _, _, _, _]) rfl rfl (Nat.le_of_ble_eq_true rfl) (by first | exact trivial | exact rfl) rfl ?_
      refine zr_bipush 33 (x := 30) rfl rfl (by decide) ?_
      refine zr_istore 35 (L2 := [_, _, _, _, _, _, _]) rfl rfl (Nat.le_of_ble_eq_true rfl) (by first | exact trivial | exact rfl) rfl ?_
      refine key _ i 31 (-3) ξ rfl ?_ (zfm.rf _) hi (by omega) ?_ rfl
      · have q := h.slaw 2 (K.law 2)
        rw [zslaw_same] at q
        exact q
      · rintro (q | q)
        · exact absurd c15z.1 (Int32.not_le.mpr q)
        · exact absurd c15z.2 (Int32.not_le.mpr q)
    · replace c15z := zb_0.mp c15z
      refine zr_iconst 19 (x := (-1)) rfl rfl (by decide) ?_
      refine zr_iret rfl rfl ?_
      refine ⟨ξ, rfl, ?_, h, zfm.rf _⟩
      rw [if_pos (show mk < 1 ∨ 120 < mk by
        by_cases q : mk < 1
        · exact Or.inl q
        · exact Or.inr (Int32.not_le.mp (fun z => c15z ⟨Int32.not_lt.mp q, z⟩)))]
set_option maxRecDepth 20000 in
set_option maxHeartbeats 1000000 in
theorem c_Mpatience {S : Nat × (Nat → Int32)} {d n : Nat} {ξ : Nat → Nat → Int32} {ρ : zRho} {K : zCs} (h : zMR ξ 0 K) (hK : zOK K) (x : Int32) : Zc S (d + 9) jX6_patience [.ref 42, .int x] (zWof n ξ ρ) (fun r w => ∃ ξ2, w = zWof n ξ2 ρ ∧ r = some (.int (zper K x (fun i => K.pat i 10 0 (-3) (-1)))) ∧ zMR ξ2 0 K ∧ zfm ξ ξ2) := by
  have hd3 := hK.d3
  have hm6 := hK.m6
  have ht60 := hK.t60
  refine Zc_in (q := (6, 0, 1, 1, 7, 0, 0, zk_X6_patience)) rfl (Nat.le_of_ble_eq_true rfl) (L := [_, _, _, _, _, _, _]) rfl ?_
  have key : ∀ (k : Nat) (i : Nat) (a : Nat) (best : Int32) (most : Int32) (ξ1 : Nat → Nat → Int32), 10 - a = k → zMR (zu ξ1 47 i (K.p i 1)) 0 K → zfm ξ ξ1 → i < K.M → a ≤ 10 → zper K (nI i) (fun i => K.pat i 10 0 (-3) (-1)) = K.pat i (10 - a) a best most →  Zw S (Zc S (d + 8)) 6 false 1 zk_X6_patience (fun r w => ∃ ξ2, w = zWof n ξ2 ρ ∧ r = some (.int (zper K (nI i) (fun i => K.pat i 10 0 (-3) (-1)))) ∧ zMR ξ2 0 K ∧ zfm ξ ξ2) (26, [some (.ref 42), some (.int (nI i)), some (.int (K.p i 1)), some (.int best), some (.int most), some (.int (nI a)), none], [], (0, 0), zWof n ξ1 ρ) := by
    intro k
    induction k using Nat.strongRecOn with
    | ind k ih =>
      intro i a best most ξ1 hk m1 f1 hi ha ee
      refine zr_iload 28 rfl rfl rfl ?_
      refine zr_bipush 30 (x := 10) rfl rfl (by decide) ?_
      refine zr_icmp_ge 84 33 rfl rfl (by decide) (fun c30z => ?_) (fun c30z => ?_)
      · rw [show (10 : Int32) = nI 10 from rfl, nI_leI (by omega) (by omega)] at c30z
        refine zr_aload_n 85 rfl rfl rfl trivial ?_
        refine zr_getf 88 rfl rfl rfl rfl rfl ?_
        refine zr_iload_n 89 rfl rfl rfl ?_
        refine zr_iload_n 90 rfl rfl rfl ?_
        refine zr_iast 91 rfl rfl rfl (nI_clamp (by omega)) (vp_in_nI (by omega) (by omega)) (zW_set rfl) ?_
        refine zr_iload_n 92 rfl rfl rfl ?_
        refine zr_iret rfl rfl ?_
        exact ⟨_, rfl, by rw [ee, show 10 - a = 0 by omega]; rfl, m1, f1.u 47 i _ (by omega)⟩
      · rw [show (10 : Int32) = nI 10 from rfl, nI_leI (by omega) (by omega)] at c30z
        rw [show 10 - a = 10 - (a + 1) + 1 by omega, zCs.pat] at ee
        have m2 := m1.u47 (i := i) (nI a)
        rw [zuu] at m2
        refine zr_aload_n 34 rfl rfl rfl trivial ?_
        refine zr_getf 37 rfl rfl rfl rfl rfl ?_
        refine zr_iload_n 38 rfl rfl rfl ?_
        refine zr_iload 40 rfl rfl rfl ?_
        refine zr_iast 41 rfl rfl rfl (nI_clamp (by omega)) (vp_in_nI (by omega) (by omega)) (zW_set rfl) ?_
        refine zr_aload_n 42 rfl rfl rfl trivial ?_
        refine zr_iload_n 43 rfl rfl rfl ?_
        refine zr_callv 46 (As := [_]) (u2 := (0, 0)) rfl rfl rfl rfl rfl rfl rfl (Nat.le_of_ble_eq_true rfl) (Nat.le_of_ble_eq_true rfl) (Nat.le_of_ble_eq_true rfl) rfl (c_MmarkThen m2 (hK.sp i (fun _ => (hK.hp i hi).a (by rw [nI_toInt (by omega)]; omega))) hi) rfl (fun v2 w2 h43z => ?_)
        obtain ⟨rfl, ξ2, rfl, f2⟩ := h43z
        have m3 := (f2.mr m2 hm6).u47 (i := i) (K.p i 1)
        rw [zsp_back] at m3
        have g2 := (f1.u 47 i (nI a) (by omega)).tr f2.fm
        refine zr_istore 48 (L2 := [_, _, _, _, _, _, _]) rfl rfl (Nat.le_of_ble_eq_true rfl) (by first | exact trivial | exact rfl) rfl ?_
        refine zr_iload 50 rfl rfl rfl ?_
        refine zr_iload 52 rfl rfl rfl ?_
        refine zr_icmp_le 60 55 rfl rfl (by decide) (fun c52z => ?_) (fun c52z => ?_)
        · refine zr_iload_n 61 rfl rfl rfl ?_
          refine zr_istore_n 62 (L2 := [_, _, _, _, _, _, _]) rfl rfl (Nat.le_of_ble_eq_true rfl) (by first | exact trivial | exact rfl) rfl ?_
          refine zr_iload 64 rfl rfl rfl ?_
          refine zr_iload 66 rfl rfl rfl ?_
          refine zr_icmp_le 74 69 rfl rfl (by decide) (fun c66z => ?_) (fun c66z => ?_)
          · refine zr_iload 76 rfl rfl rfl ?_
            refine zr_istore 78 (L2 := [_, _, _, _, _, _, _]) rfl rfl (Nat.le_of_ble_eq_true rfl) (by first | exact trivial | exact rfl) rfl ?_
            refine zr_iinc 81 (c0 := 1) (L2 := [_, _, _, _, _, _, _]) rfl rfl rfl (by first | exact trivial | exact rfl) (by decide) rfl ?_
            refine zr_goto 26 rfl (by decide) ?_
            rw [nI_1]
            refine zs_forget (L' := [_, _, _, _, _, _, none]) (zsub_s (zsub_s (zsub_s (zsub_s (zsub_s (zsub_s (zsub_n zsub_0))))))) ?_
            exact ih _ (by omega) i (a + 1) _ _ ξ2 rfl m3 g2 hi (by omega) (by rw [ee, if_neg (Int32.not_lt.mpr c52z)])
          · refine zr_iload 71 rfl rfl rfl ?_
            refine zr_goto 76 rfl (by decide) ?_
            refine zr_istore 78 (L2 := [_, _, _, _, _, _, _]) rfl rfl (Nat.le_of_ble_eq_true rfl) (by first | exact trivial | exact rfl) rfl ?_
            refine zr_iinc 81 (c0 := 1) (L2 := [_, _, _, _, _, _, _]) rfl rfl rfl (by first | exact trivial | exact rfl) (by decide) rfl ?_
            refine zr_goto 26 rfl (by decide) ?_
            rw [nI_1]
            refine zs_forget (L' := [_, _, _, _, _, _, none]) (zsub_s (zsub_s (zsub_s (zsub_s (zsub_s (zsub_s (zsub_n zsub_0))))))) ?_
            exact absurd c52z c66z
        · refine zr_iload 57 rfl rfl rfl ?_
          refine zr_goto 61 rfl (by decide) ?_
          refine zr_istore_n 62 (L2 := [_, _, _, _, _, _, _]) rfl rfl (Nat.le_of_ble_eq_true rfl) (by first | exact trivial | exact rfl) rfl ?_
          refine zr_iload 64 rfl rfl rfl ?_
          refine zr_iload 66 rfl rfl rfl ?_
          refine zr_icmp_le 74 69 rfl rfl (by decide) (fun c66z => ?_) (fun c66z => ?_)
          · refine zr_iload 76 rfl rfl rfl ?_
            refine zr_istore 78 (L2 := [_, _, _, _, _, _, _]) rfl rfl (Nat.le_of_ble_eq_true rfl) (by first | exact trivial | exact rfl) rfl ?_
            refine zr_iinc 81 (c0 := 1) (L2 := [_, _, _, _, _, _, _]) rfl rfl rfl (by first | exact trivial | exact rfl) (by decide) rfl ?_
            refine zr_goto 26 rfl (by decide) ?_
            rw [nI_1]
            refine zs_forget (L' := [_, _, _, _, _, _, none]) (zsub_s (zsub_s (zsub_s (zsub_s (zsub_s (zsub_s (zsub_n zsub_0))))))) ?_
            exact absurd c66z c52z
          · refine zr_iload 71 rfl rfl rfl ?_
            refine zr_goto 76 rfl (by decide) ?_
            refine zr_istore 78 (L2 := [_, _, _, _, _, _, _]) rfl rfl (Nat.le_of_ble_eq_true rfl) (by first | exact trivial | exact rfl) rfl ?_
            refine zr_iinc 81 (c0 := 1) (L2 := [_, _, _, _, _, _, _]) rfl rfl rfl (by first | exact trivial | exact rfl) (by decide) rfl ?_
            refine zr_goto 26 rfl (by decide) ?_
            rw [nI_1]
            refine zs_forget (L' := [_, _, _, _, _, _, none]) (zsub_s (zsub_s (zsub_s (zsub_s (zsub_s (zsub_s (zsub_n zsub_0))))))) ?_
            exact ih _ (by omega) i (a + 1) _ _ ξ2 rfl m3 g2 hi (by omega) (by rw [ee, if_pos (Int32.not_le.mp c52z)])
  refine zr_aload_n 1 rfl rfl rfl trivial ?_
  refine zr_iload_n 2 rfl rfl rfl ?_
  refine zr_callv 5 (As := [_]) (u2 := (0, 0)) rfl rfl rfl rfl rfl rfl rfl (Nat.le_of_ble_eq_true rfl) (Nat.le_of_ble_eq_true rfl) (Nat.le_of_ble_eq_true rfl) rfl (c_MisPerson h hK _) rfl (fun v2 w2 h2z => ?_)
  obtain ⟨rfl, rfl⟩ := h2z
  refine zr_if_ne 10 8 rfl rfl (by decide) (fun c5z => ?_) (fun c5z => ?_)
  · replace c5z := zb_n0.mp c5z
    obtain ⟨i, hi, rfl⟩ := zperI rfl (by omega) c5z
    refine zr_aload_n 11 rfl rfl rfl trivial ?_
    refine zr_getf 14 rfl rfl rfl rfl rfl ?_
    refine zr_iload_n 15 rfl rfl rfl ?_
    refine zr_iald 16 rfl rfl rfl (nI_clamp (by omega)) (vp_in_nI (by omega) (by omega)) ?_
    rw [h.k1 hi]
    refine zr_istore_n 17 (L2 := [_, _, _, _, _, _, _]) rfl rfl (Nat.le_of_ble_eq_true rfl) (by first | exact trivial | exact rfl) rfl ?_
    refine zr_bipush 19 (x := (-3)) rfl rfl (by decide) ?_
    refine zr_istore_n 20 (L2 := [_, _, _, _, _, _, _]) rfl rfl (Nat.le_of_ble_eq_true rfl) (by first | exact trivial | exact rfl) rfl ?_
    refine zr_iconst 21 (x := (-1)) rfl rfl (by decide) ?_
    refine zr_istore 23 (L2 := [_, _, _, _, _, _, _]) rfl rfl (Nat.le_of_ble_eq_true rfl) (by first | exact trivial | exact rfl) rfl ?_
    refine zr_iconst 24 (x := 0) rfl rfl (by decide) ?_
    refine zr_istore 26 (L2 := [_, _, _, _, _, _, _]) rfl rfl (Nat.le_of_ble_eq_true rfl) (by first | exact trivial | exact rfl) rfl ?_
    refine key _ i 0 (-3) (-1) ξ rfl ?_ (zfm.rf _) hi (by omega) (zper_in hm6 hi _)
    have q := (h.u47 (i := i) (K.p i 1)).u47 (i := i) (K.p i 1)
    rw [zuu, zsp_back] at q
    exact q
  · replace c5z := zb_0.mp c5z
    refine zr_iconst 9 (x := (-1)) rfl rfl (by decide) ?_
    refine zr_iret rfl rfl ?_
    exact ⟨ξ, rfl, by rw [zper_out rfl _ c5z], h, zfm.rf _⟩
