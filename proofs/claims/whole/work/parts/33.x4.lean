theorem zsub_0 : zsub [] [] := trivial
theorem zsub_s {v : Value} {a b : zL} (h : zsub a b) : zsub (some v :: a) (some v :: b) := ⟨rfl, h⟩
theorem zsub_n {x : Option Value} {a b : zL} (h : zsub a b) : zsub (none :: a) (x :: b) := h
def zfirstF (P : Nat → Prop) [DecidablePred P] : Nat → Nat → Int32
  | 0, _ => -3
  | n + 1, j => if P j then nI j else zfirstF P n (j + 1)
def zCs.bst (K : zCs) : Nat → Nat → Int32 → Int32 → Int32
  | 0, _, best, _ => best
  | n + 1, j, best, most => if K.has (nI j) then K.bst n (j + 1) best most else if 3 ≤ K.D then -2 else if most < ((K.addD (nI j) 50).go 60).sum then K.bst n (j + 1) (nI j) ((K.addD (nI j) 50).go 60).sum else K.bst n (j + 1) best most
def zCs.U (K : zCs) : Nat := (K.law 0).toInt.toNat
def zCs.best (K : zCs) : Int32 := K.bst (K.U - K.T) K.T (-3) (-1)
theorem zOK.hU {K : zCs} (h : zOK K) : K.law 0 = nI K.U ∧ 1 ≤ K.U ∧ K.U ≤ 50 := by
  have := h.l0
  unfold zCs.U
  refine ⟨Int32.toInt_inj.mp ?_, by omega, by omega⟩
  rw [nI_toInt (by omega)]
  omega
def zCs.pat (K : zCs) (i : Nat) : Nat → Nat → Int32 → Int32 → Int32
  | 0, _, best, _ => best
  | n + 1, a, best, most => if most < ((K.sp i 1 (nI a)).go 60).mk' i then K.pat i n (a + 1) (nI a) (((K.sp i 1 (nI a)).go 60).mk' i) else K.pat i n (a + 1) best most
def zCs.wil (K : zCs) (i j : Nat) : zCs := K.sp i 4 (K.p i 4 ||| (1 : Int32) <<< (nI j &&& 31))
def zCs.wrs (K : zCs) (i : Nat) : Nat → Nat → Int32 → Int32 → Int32
  | 0, _, best, _ => best
  | n + 1, j, best, least => if K.p i 4 >>> (nI j &&& 31) &&& 1 = 1 then K.wrs i n (j + 1) best least else if ((K.wil i j).go 60).mk' i < least then K.wrs i n (j + 1) (nI j) (((K.wil i j).go 60).mk' i) else K.wrs i n (j + 1) best least
def zCs.enou (K : zCs) (mark : Int32) (i : Nat) : Int32 := if (K.go 60).mk' i < 0 then -3 else zfirstF (fun v => ((K.slaw 2 (nI v)).go 60).mk' i < mark) 31 0
def zCs.soo0 (K : zCs) : Nat := if 0 < K.D then (K.dd (K.D - 1)).toInt.toNat + 1 else 1
def zCs.soon (K : zCs) : Int32 := zfirstF (fun v => ((K.slaw 0 (nI v)).go 60).lts &&& ((K.go 60).lts ^^^ -1) = 0) (51 - K.soo0) K.soo0
/-- one PERSON's s anew -/
def zCs.ws (K : zCs) (i : Nat) (s : Int32 × Int32 × Int32) : zCs := (K.D, K.M, K.T, K.z, K.law, K.dd, K.dp, fun j => if j = i then zput3 (K.p i) s else K.p j)
def zCs.dy (K : zCs) (i day : Nat) (s : Int32 × Int32 × Int32) : Int32 × Int32 × Int32 := zdayS K.dd K.dp K.D (K.law 0) (K.law 1) (K.p i 0) (K.p i 1) (K.p i 2) (K.p i 4) day s
def zCs.hr (K : zCs) (i day : Nat) (s : Int32 × Int32 × Int32) : Int32 := if s.2.1 = -9 then zhrsF K.dd K.dp K.D (K.law 0) (K.law 1) (K.p i 0) (K.p i 1) (K.p i 2) s.1 (K.p i 4) (nI day) else 0
theorem zXR.self {ξ : Nat → Nat → Int32} {b : Nat} {K : zCs} (h : zXR ξ b K) (i : Nat) : zXR ξ b (K.ws i (K.s i)) := ⟨h.hd, h.hm, h.ht, h.hz, h.hl, h.hdd, h.hdp, fun j hj k hk => by
  show _ = (if j = i then zput3 (K.p i) (K.s i) else K.p j) k
  by_cases e : j = i
  · subst e
    rw [if_pos rfl, h.hp j hj k hk]
    unfold zput3 zCs.s
    by_cases k3 : k = 3
    · subst k3; rfl
    by_cases k5 : k = 5
    · subst k5; rfl
    by_cases k6 : k = 6
    · subst k6; rfl
    rw [if_neg k3, if_neg k5, if_neg k6]
  · rw [if_neg e]
    exact h.hp j hj k hk⟩
theorem zws_k {K : zCs} {i : Nat} {s : Int32 × Int32 × Int32} {k : Nat} (h3 : k ≠ 3) (h5 : k ≠ 5) (h6 : k ≠ 6) : (K.ws i s).p i k = K.p i k := by
  show (if i = i then zput3 (K.p i) s else K.p i) k = _
  rw [if_pos rfl]
  unfold zput3
  rw [if_neg h3, if_neg h5, if_neg h6]
theorem zws_3 {K : zCs} {i : Nat} {s : Int32 × Int32 × Int32} : (K.ws i s).p i 3 = s.1 := by
  show (if i = i then zput3 (K.p i) s else K.p i) 3 = _
  rw [if_pos rfl]
  rfl
theorem zws_5 {K : zCs} {i : Nat} {s : Int32 × Int32 × Int32} : (K.ws i s).p i 5 = s.2.1 := by
  show (if i = i then zput3 (K.p i) s else K.p i) 5 = _
  rw [if_pos rfl]
  rfl
theorem zws_6 {K : zCs} {i : Nat} {s : Int32 × Int32 × Int32} : (K.ws i s).p i 6 = s.2.2 := by
  show (if i = i then zput3 (K.p i) s else K.p i) 6 = _
  rw [if_pos rfl]
  rfl
theorem k_liveDay {S : Nat × (Nat → Int32)} {d n b : Nat} {ξ : Nat → Nat → Int32} {ρ : zRho} {K : zCs} (hb : zisC b) {i : Nat} {s : Int32 × Int32 × Int32} (h : zXR ξ b (K.ws i s)) (hK : zOK K) (hi : i < K.M) {day : Nat} (hd : day ≤ 60) : Zc S (d + 4) jX0_liveDay [.ref b, .ref (b + 5 + i), .int (nI day)] (zWof n ξ ρ) (fun r w => r = some (.int (K.hr i day s)) ∧ ∃ ξ2, w = zWof n ξ2 ρ ∧ zXR ξ2 b (K.ws i (K.dy i day s)) ∧ zfrA b ξ ξ2) := by
  have hm6 := hK.m6
  have hz : ∀ j, ¬ ztogoF (zgdayF (ξ (b + 2)) K.D (ξ (b + 1) 0) j) (nI day) = 0 ∧ ¬ ztogoF (zgdayF (ξ (b + 2)) K.D (ξ (b + 1) 0) j) (nI day) + 1 = 0 := by
    rw [h.hl 0 (by decide)]
    exact zgok_z (zgok_of h.hdd hK.gok) hd
  refine Zc_mono (d := d + 3) (c_liveDay hb (zP hb (by omega)) h.hd hK.d3 (nI day) hz) ?_
  have e0 : ξ (b + 5 + i) 0 = K.p i 0 := (h.hp i hi 0 (by decide)).trans (zws_k (by decide) (by decide) (by decide))
  have e1 : ξ (b + 5 + i) 1 = K.p i 1 := (h.hp i hi 1 (by decide)).trans (zws_k (by decide) (by decide) (by decide))
  have e2 : ξ (b + 5 + i) 2 = K.p i 2 := (h.hp i hi 2 (by decide)).trans (zws_k (by decide) (by decide) (by decide))
  have e4 : ξ (b + 5 + i) 4 = K.p i 4 := (h.hp i hi 4 (by decide)).trans (zws_k (by decide) (by decide) (by decide))
  have e3 : ξ (b + 5 + i) 3 = s.1 := (h.hp i hi 3 (by decide)).trans zws_3
  have e5 : ξ (b + 5 + i) 5 = s.2.1 := (h.hp i hi 5 (by decide)).trans zws_5
  have e6 : ξ (b + 5 + i) 6 = s.2.2 := (h.hp i hi 6 (by decide)).trans zws_6
  have eh : zhrsF (ξ (b + 2)) (ξ (b + 3)) K.D (ξ (b + 1) 0) (ξ (b + 1) 1) (ξ (b + 5 + i) 0) (ξ (b + 5 + i) 1) (ξ (b + 5 + i) 2) (ξ (b + 5 + i) 3) (ξ (b + 5 + i) 4) (nI day) = zhrsF K.dd K.dp K.D (K.law 0) (K.law 1) (K.p i 0) (K.p i 1) (K.p i 2) s.1 (K.p i 4) (nI day) := by
    rw [e0, e1, e2, e3, e4, h.hl 0 (by decide), h.hl 1 (by decide)]
    exact zhrsF_cg h.hdd h.hdp
  rintro r w ⟨r1, ξ2, r2, f1, f2, f3, f4⟩
  refine ⟨?_, ξ2, r2, ?_, fun a ha => funext fun k => f1 a k (by omega)⟩
  · rw [r1, e5, show zhrsF (ξ (b + 2)) (ξ (b + 3)) (zCs.D (K.ws i s)) _ _ _ _ _ _ _ _ = _ from eh]
    rfl
  have et : (ξ2 (b + 5 + i) 3, ξ2 (b + 5 + i) 5, ξ2 (b + 5 + i) 6) = K.dy i day s := by
    unfold zCs.dy zdayS
    by_cases q : s.2.1 = -9
    · rw [if_pos q]
      obtain ⟨g3, g6, g5⟩ := f4 (by rw [e5]; exact q)
      have g3' : ξ2 (b + 5 + i) 3 = zdoneF K.dd K.dp K.D (K.law 0) (K.law 1) (K.p i 0) (K.p i 1) (K.p i 2) s.1 (K.p i 4) (nI day) := by
        rw [g3]
        unfold zdoneF
        rw [show zhrsF (ξ (b + 2)) (ξ (b + 3)) (zCs.D (K.ws i s)) _ _ _ _ _ _ _ _ = _ from eh, e3]
      rw [g6, g5, g3', e2, e6]
      rw [zmissF_cg (dd2 := K.dd) (dp2 := K.dp) _ 0 _ (fun j _ hj => h.hdd j (by omega)) (fun j _ hj => h.hdp j (by omega))]
      rfl
    · rw [if_neg q]
      obtain ⟨g3, g5, g6⟩ := f3 (by rw [e5]; exact q)
      rw [g3, g5, g6, e3, e5, e6]
  refine ⟨?_, ?_, ?_, ?_, fun j hj => ?_, fun j hj => ?_, fun j hj => ?_, fun j hj k hk => ?_⟩
  · rw [f1 _ _ (by omega)]; exact h.hd
  · rw [f1 _ _ (by omega)]; exact h.hm
  · rw [f1 _ _ (by omega)]; exact h.ht
  · rw [f1 _ _ (by omega)]; exact h.hz
  · rw [f1 _ _ (by omega)]; exact h.hl j hj
  · rw [f1 _ _ (by omega)]; exact h.hdd j hj
  · rw [f1 _ _ (by omega)]; exact h.hdp j hj
  · have hh := h.hp j hj k hk
    show _ = (if j = i then zput3 (K.p i) (K.dy i day s) else K.p j) k
    by_cases e : j = i
    · subst e
      rw [if_pos rfl, ← et]
      unfold zput3
      by_cases k3 : k = 3
      · subst k3; rfl
      by_cases k5 : k = 5
      · subst k5; rfl
      by_cases k6 : k = 6
      · subst k6; rfl
      rw [if_neg k3, if_neg k5, if_neg k6, f2 k k3 k5 k6, hh, zws_k k3 k5 k6]
    · rw [if_neg e, f1 _ _ (by omega), hh]
      show (if j = i then _ else K.p j) k = _
      rw [if_neg e]
theorem zlvS_snoc {dd dp : Nat → Int32} {D : Nat} {due most kind a work ill : Int32} : ∀ (n day : Nat) (s : Int32 × Int32 × Int32), zlvS dd dp D due most kind a work ill (n + 1) day s = zdayS dd dp D due most kind a work ill (day + n) (zlvS dd dp D due most kind a work ill n day s)
  | 0, _, _ => rfl
  | n + 1, day, s => by
    rw [zlvS, zlvS_snoc n (day + 1)]
    rw [show day + 1 + n = day + (n + 1) by omega]
    rfl
theorem zCs.lv_snoc (K : zCs) (i n : Nat) : K.lv i (n + 1) K.T = K.dy i (K.T + n) (K.lv i n K.T) := zlvS_snoc n K.T _
/-- THE ROWS that prove what a PERSON does: number 3 r + c -/
def zCs.rowF (K : zCs) (i k : Nat) : Int32 := if k % 3 = 0 then nI (K.T + k / 3) else if k % 3 = 1 then K.hr i (K.T + k / 3) (K.lv i (k / 3) K.T) else (K.lv i (k / 3 + 1) K.T).1
theorem zrowF_0 (K : zCs) (i r : Nat) : K.rowF i (r * 3) = nI (K.T + r) := by
  unfold zCs.rowF
  rw [if_pos (by omega), show r * 3 / 3 = r by omega]
theorem zrowF_1 (K : zCs) (i r : Nat) : K.rowF i (r * 3 + 1) = K.hr i (K.T + r) (K.lv i r K.T) := by
  unfold zCs.rowF
  rw [if_neg (by omega), if_pos (by omega), show (r * 3 + 1) / 3 = r by omega]
theorem zrowF_2 (K : zCs) (i r : Nat) : K.rowF i (r * 3 + 2) = (K.lv i (r + 1) K.T).1 := by
  unfold zCs.rowF
  rw [if_neg (by omega), if_neg (by omega), show (r * 3 + 2) / 3 = r by omega]
def zjdgF (K : zCs) (i : Nat) (rw : Nat → Int32) : Nat → Nat → Int32
  | 0, _ => 0
  | n + 1, r => if 60 ≤ K.T + r ∨ ¬ (rw (r * 3) = K.rowF i (r * 3) ∧ rw (r * 3 + 1) = K.rowF i (r * 3 + 1) ∧ rw (r * 3 + 2) = K.rowF i (r * 3 + 2)) then nI (r + 1) else zjdgF K i rw n (r + 1)
set_option maxRecDepth 20000 in
set_option maxHeartbeats 1000000 in
theorem c_bestDate {S : Nat × (Nat → Int32)} {d n : Nat} {ξ : Nat → Nat → Int32} {ρ : zRho} {K : zCs} (h : zXR ξ 1 K) (hK : zOK K) : Zc S (d + 8) jX5_bestDate [.ref 0] (zWof n ξ ρ) (fun r w => ∃ ξ2, w = zWof n ξ2 ρ ∧ r = some (.int (K.best)) ∧ zfrA 23 ξ ξ2) := by
  have hd3 := hK.d3
  have hm6 := hK.m6
  have ht60 := hK.t60
  refine Zc_in (q := (5, 0, 1, 0, 5, 0, 0, zk_X5_bestDate)) rfl (Nat.le_of_ble_eq_true rfl) (L := [_, _, _, _, _]) rfl ?_
  obtain ⟨hU, hU1, hU2⟩ := hK.hU
  have key : ∀ (k : Nat) (j : Nat) (best : Int32) (most : Int32) (ξ1 : Nat → Nat → Int32), 60 - j = k → zfrA 23 ξ ξ1 → j ≤ 60 → K.best = K.bst (K.U - j) j best most →  Zw S (Zc S (d + 7)) 5 false 1 zk_X5_bestDate (fun r w => ∃ ξ2, w = zWof n ξ2 ρ ∧ r = some (.int (K.best)) ∧ zfrA 23 ξ ξ2) (13, [some (.ref 0), some (.int best), some (.int most), some (.int (nI j)), none], [], (0, 0), zWof n ξ1 ρ) := by
    intro k
    induction k using Nat.strongRecOn with
    | ind k ih =>
      intro j best most ξ1 hk f1 hj eb
      have h1 : zXR ξ1 1 K := h.fr hm6 (fun a a1 a2 => f1 a (Or.inl (by omega)))
      refine zr_iload_n 14 rfl rfl rfl ?_
      refine zr_aload_n 15 rfl rfl rfl trivial ?_
      refine zr_getf 18 rfl rfl rfl rfl rfl ?_
      refine zr_getf 21 rfl rfl rfl rfl rfl ?_
      refine zr_iconst 22 (x := 0) rfl rfl (by decide) ?_
      refine zr_iald 23 (i := 0) rfl rfl rfl (by decide) (by unfold vp_in; decide) ?_
      refine zr_icmp_ge 110 26 rfl rfl (by decide) (fun c23z => ?_) (fun c23z => ?_)
      · rw [show ξ1 2 0 = nI K.U from (h1.hl 0 (by decide)).trans hU, nI_leI (by omega) (by omega)] at c23z
        refine zr_iload_n 111 rfl rfl rfl ?_
        refine zr_iret rfl rfl ?_
        exact ⟨ξ1, rfl, by rw [eb, show K.U - j = 0 by omega]; rfl, f1⟩
      · rw [show ξ1 2 0 = nI K.U from (h1.hl 0 (by decide)).trans hU, nI_leI (by omega) (by omega)] at c23z
        rw [show K.U - j = K.U - (j + 1) + 1 by omega, zCs.bst] at eb
        refine zr_aload_n 27 rfl rfl rfl trivial ?_
        refine zr_getf 30 rfl rfl rfl rfl rfl ?_
        refine zr_iload_n 31 rfl rfl rfl ?_
        refine zr_callv 34 (As := [_]) (u2 := (0, 0)) rfl rfl rfl rfl rfl rfl rfl (Nat.le_of_ble_eq_true rfl) (Nat.le_of_ble_eq_true rfl) (Nat.le_of_ble_eq_true rfl) rfl (c_hasDateOn zc1 h1.hd hd3 _) rfl (fun v2 w2 h31z => ?_)
        obtain ⟨rfl, rfl⟩ := h31z
        refine zr_if_eq 40 37 rfl rfl (by decide) (fun c34z => ?_) (fun c34z => ?_)
        · replace c34z := zb_0.mp c34z
          rw [h1.hasD] at c34z
          rw [if_neg c34z] at eb
          refine zr_aload_n 41 rfl rfl rfl trivial ?_
          refine zr_getf 44 rfl rfl rfl rfl rfl ?_
          refine zr_getf 47 rfl rfl rfl rfl rfl ?_
          refine zr_iconst 48 (x := 3) rfl rfl (by decide) ?_
          refine zr_icmp_lt 54 51 rfl rfl (by decide) (fun c48z => ?_) (fun c48z => ?_)
          · rw [h1.hd, show (3 : Int32) = nI 3 from rfl, nI_ltI (by omega) (by omega)] at c48z
            rw [if_neg (by omega)] at eb
            refine zr_aload_n 55 rfl rfl rfl trivial ?_
            refine zr_getf 58 rfl rfl rfl rfl rfl ?_
            refine zr_aload_n 59 rfl rfl rfl trivial ?_
            refine zr_getf 62 rfl rfl rfl rfl rfl ?_
            refine zr_callv 65 (As := [_]) (u2 := (0, 0)) rfl rfl rfl rfl rfl rfl rfl (Nat.le_of_ble_eq_true rfl) (Nat.le_of_ble_eq_true rfl) (Nat.le_of_ble_eq_true rfl) rfl (k_copy zc23 zc1 (by decide) h1 hK) rfl (fun v2 w2 h62z => ?_)
            obtain ⟨rfl, ξ2, rfl, x2, f2⟩ := h62z
            refine zr_aload_n 66 rfl rfl rfl trivial ?_
            refine zr_getf 69 rfl rfl rfl rfl rfl ?_
            refine zr_iload_n 70 rfl rfl rfl ?_
            refine zr_bipush 72 (x := 50) rfl rfl (by decide) ?_
            refine zr_callv 75 (As := [_, _]) (u2 := (0, 0)) rfl rfl rfl rfl rfl rfl rfl (Nat.le_of_ble_eq_true rfl) (Nat.le_of_ble_eq_true rfl) (Nat.le_of_ble_eq_true rfl) rfl (k_addDate zc23 x2 c48z hm6 _ _) rfl (fun v2 w2 h72z => ?_)
            obtain ⟨rfl, ξ3, rfl, x3, f3⟩ := h72z
            refine zr_aload_n 76 rfl rfl rfl trivial ?_
            refine zr_getf 79 rfl rfl rfl rfl rfl ?_
            refine zr_bipush 81 (x := 60) rfl rfl (by decide) ?_
            refine zr_callv 84 (As := [_]) (u2 := (0, 0)) rfl rfl rfl rfl rfl rfl rfl (Nat.le_of_ble_eq_true rfl) (Nat.le_of_ble_eq_true rfl) (Nat.le_of_ble_eq_true rfl) rfl (k_goTo (E := 60) zc23 x3 (hK.addD c48z (by rw [nI_toInt (by omega)]; omega) (by rw [hU, nI_toInt (by omega), nI_toInt (by omega)]; omega) c34z (by decide)) ht60 (by decide)) rfl (fun v2 w2 h81z => ?_)
            obtain ⟨rfl, ξ4, rfl, x4, f4⟩ := h81z
            have f5 : zfrA 23 ξ ξ4 := fun a ha => by rw [f4 a ha, f3 a ha, f2 a ha, f1 a ha]
            refine zr_aload_n 85 rfl rfl rfl trivial ?_
            refine zr_getf 88 rfl rfl rfl rfl rfl ?_
            refine zr_callv 91 (As := []) (u2 := (0, 0)) rfl rfl rfl rfl rfl rfl rfl (Nat.le_of_ble_eq_true rfl) (Nat.le_of_ble_eq_true rfl) (Nat.le_of_ble_eq_true rfl) rfl (k_sum zc23 x4 hm6) rfl (fun v2 w2 h88z => ?_)
            obtain ⟨rfl, rfl⟩ := h88z
            refine zr_istore 93 (L2 := [_, _, _, _, _]) rfl rfl (Nat.le_of_ble_eq_true rfl) (by first | exact trivial | exact rfl) rfl ?_
            refine zr_iload 95 rfl rfl rfl ?_
            refine zr_iload_n 96 rfl rfl rfl ?_
            refine zr_icmp_le 104 99 rfl rfl (by decide) (fun c96z => ?_) (fun c96z => ?_)
            · refine zr_iinc 107 (c0 := 1) (L2 := [_, _, _, _, _]) rfl rfl rfl (by first | exact trivial | exact rfl) (by decide) rfl ?_
              refine zr_goto 13 rfl (by decide) ?_
              rw [nI_1]
              refine zs_forget (L' := [_, _, _, _, none]) (zsub_s (zsub_s (zsub_s (zsub_s (zsub_n zsub_0))))) ?_
              exact ih _ (by omega) (j + 1) best most ξ4 rfl f5 (by omega) (by rw [eb, if_neg (Int32.not_lt.mpr c96z)])
            · refine zr_iload 101 rfl rfl rfl ?_
              refine zr_istore_n 102 (L2 := [_, _, _, _, _]) rfl rfl (Nat.le_of_ble_eq_true rfl) (by first | exact trivial | exact rfl) rfl ?_
              refine zr_iload_n 103 rfl rfl rfl ?_
              refine zr_istore_n 104 (L2 := [_, _, _, _, _]) rfl rfl (Nat.le_of_ble_eq_true rfl) (by first | exact trivial | exact rfl) rfl ?_
              refine zr_iinc 107 (c0 := 1) (L2 := [_, _, _, _, _]) rfl rfl rfl (by first | exact trivial | exact rfl) (by decide) rfl ?_
              refine zr_goto 13 rfl (by decide) ?_
              rw [nI_1]
              refine zs_forget (L' := [_, _, _, _, none]) (zsub_s (zsub_s (zsub_s (zsub_s (zsub_n zsub_0))))) ?_
              exact ih _ (by omega) (j + 1) _ _ ξ4 rfl f5 (by omega) (by rw [eb, if_pos (Int32.not_le.mp c96z)])
          · rw [h1.hd, show (3 : Int32) = nI 3 from rfl, nI_ltI (by omega) (by omega)] at c48z
            rw [if_pos (by omega)] at eb
            refine zr_bipush 53 (x := (-2)) rfl rfl (by decide) ?_
            refine zr_iret rfl rfl ?_
            exact ⟨ξ1, rfl, by rw [eb], f1⟩
        · replace c34z := zb_n0.mp c34z
          rw [h1.hasD] at c34z
          rw [if_pos c34z] at eb
          refine zr_goto 104 rfl (by decide) ?_
          refine zr_iinc 107 (c0 := 1) (L2 := [_, _, _, _, _]) rfl rfl rfl (by first | exact trivial | exact rfl) (by decide) rfl ?_
          refine zr_goto 13 rfl (by decide) ?_
          rw [nI_1]
          exact ih _ (by omega) (j + 1) best most ξ1 rfl f1 (by omega) eb
  refine zr_bipush 2 (x := (-3)) rfl rfl (by decide) ?_
  refine zr_istore_n 3 (L2 := [_, _, _, _, _]) rfl rfl (Nat.le_of_ble_eq_true rfl) (by first | exact trivial | exact rfl) rfl ?_
  refine zr_iconst 4 (x := (-1)) rfl rfl (by decide) ?_
  refine zr_istore_n 5 (L2 := [_, _, _, _, _]) rfl rfl (Nat.le_of_ble_eq_true rfl) (by first | exact trivial | exact rfl) rfl ?_
  refine zr_aload_n 6 rfl rfl rfl trivial ?_
  refine zr_getf 9 rfl rfl rfl rfl rfl ?_
  refine zr_getf 12 rfl rfl rfl rfl rfl ?_
  refine zr_istore_n 13 (L2 := [_, _, _, _, _]) rfl rfl (Nat.le_of_ble_eq_true rfl) (by first | exact trivial | exact rfl) rfl ?_
  rw [h.ht]
  exact key _ K.T (-3) (-1) ξ rfl (fun _ _ => rfl) ht60 rfl
theorem zslaw2 (K : zCs) (l : Nat) (a b : Int32) : (K.slaw l a).slaw l b = K.slaw l b := by
  unfold zCs.slaw
  congr 5
  funext k
  show upd (upd K.law l a) l b k = upd K.law l b k
  unfold upd
  split <;> rfl
theorem zslaw_same (K : zCs) (l : Nat) : K.slaw l (K.law l) = K := by
  have e : upd K.law l (K.law l) = K.law := by
    funext k
    unfold upd
    split
    · subst k; rfl
    · rfl
  unfold zCs.slaw
  rw [e]
theorem zfsl (K : zCs) (i : Nat) (v : Int32) : ((K.fin i).slaw 2 v).mk' i = ((K.slaw 2 v).go 60).mk' i := (show ((K.slaw 2 v).fin i).mk' i = _ from zfin_mk i)
set_option maxRecDepth 20000 in
set_option maxHeartbeats 1000000 in
theorem c_enough {S : Nat × (Nat → Int32)} {d n : Nat} {ξ : Nat → Nat → Int32} {ρ : zRho} {K : zCs} (h : zXR ξ 1 K) (hK : zOK K) (x mk : Int32) : Zc S (d + 8) jX5_enough [.ref 0, .int x, .int mk] (zWof n ξ ρ) (fun r w => ∃ ξ2, w = zWof n ξ2 ρ ∧ r = some (.int ((if mk < 1 ∨ 120 < mk then -1 else zper K x (K.enou mk)))) ∧ zfrA 23 ξ ξ2) := by
  have hd3 := hK.d3
  have hm6 := hK.m6
  have ht60 := hK.t60
  refine Zc_in (q := (5, 0, 1, 2, 4, 0, 0, zk_X5_enough)) rfl (Nat.le_of_ble_eq_true rfl) (L := [_, _, _, _]) rfl ?_
  have key : ∀ (k : Nat) (i : Nat) (v : Nat) (pv : Int32) (ξ1 : Nat → Nat → Int32), 31 - v = k → zXR ξ1 23 ((K.fin i).slaw 2 pv) → zfrA 23 ξ ξ1 → i < K.M → v ≤ 31 → (if mk < 1 ∨ 120 < mk then -1 else zper K x (K.enou mk)) = zfirstF (fun v => ((K.slaw 2 (nI v)).go 60).mk' i < mk) (31 - v) v →  Zw S (Zc S (d + 7)) 5 false 1 zk_X5_enough (fun r w => ∃ ξ2, w = zWof n ξ2 ρ ∧ r = some (.int ((if mk < 1 ∨ 120 < mk then -1 else zper K x (K.enou mk)))) ∧ zfrA 23 ξ ξ2) (52, [some (.ref 0), some (.int (nI i)), some (.int mk), some (.int (nI v))], [], (0, 0), zWof n ξ1 ρ) := by
    intro k
    induction k using Nat.strongRecOn with
    | ind k ih =>
      intro i v pv ξ1 hk x1 f1 hi hv ee
      refine zr_iload_n 53 rfl rfl rfl ?_
      refine zr_gets 56 rfl rfl rfl ?_
      refine zr_iconst 57 (x := 2) rfl rfl (by decide) ?_
      refine zr_ialc 58 (i := 2) rfl rfl (by decide) (by decide) (show vp_in 2 5 by unfold vp_in; decide) ?_
      refine zr_icmp_gt 99 61 rfl rfl (by decide) (fun c58z => ?_) (fun c58z => ?_)
      · rw [show (zct S 1).2 2 = nI 30 from rfl, nI_ltI (by omega) (by omega)] at c58z
        refine zr_bipush 101 (x := (-3)) rfl rfl (by decide) ?_
        refine zr_iret rfl rfl ?_
        exact ⟨ξ1, rfl, by rw [ee, show 31 - v = 0 by omega]; rfl, f1⟩
      · rw [show (zct S 1).2 2 = nI 30 from rfl, nI_ltI (by omega) (by omega)] at c58z
        rw [show 31 - v = 31 - (v + 1) + 1 by omega, zfirstF] at ee
        refine zr_aload_n 62 rfl rfl rfl trivial ?_
        refine zr_getf 65 rfl rfl rfl rfl rfl ?_
        refine zr_getf 68 rfl rfl rfl rfl rfl ?_
        refine zr_iconst 69 (x := 2) rfl rfl (by decide) ?_
        refine zr_iload_n 70 rfl rfl rfl ?_
        refine zr_iast 71 (i := 2) rfl rfl rfl (by decide) (by unfold vp_in; decide) (zW_set rfl) ?_
        refine zr_aload_n 72 rfl rfl rfl trivial ?_
        refine zr_getf 75 rfl rfl rfl rfl rfl ?_
        refine zr_aload_n 76 rfl rfl rfl trivial ?_
        refine zr_getf 79 rfl rfl rfl rfl rfl ?_
        refine zr_getf 82 rfl rfl rfl rfl rfl ?_
        refine zr_iload_n 83 rfl rfl rfl ?_
        refine zr_aald 84 rfl rfl rfl (by decide) (nI_clamp (by omega)) (vp_in_nI (by omega) (by omega)) (zrf_ps (by omega)) ?_
        refine zr_callv 87 (As := [_]) (u2 := (0, 0)) rfl rfl rfl rfl rfl rfl rfl (Nat.le_of_ble_eq_true rfl) (Nat.le_of_ble_eq_true rfl) (Nat.le_of_ble_eq_true rfl) rfl (c_markFor zc23 (zP zc23 (by omega))) rfl (fun v2 w2 h84z => ?_)
        obtain ⟨rfl, rfl⟩ := h84z
        have x2 := x1.slaw 2 (nI v)
        rw [zslaw2] at x2
        have em := x2.mk hi
        rw [zfsl] at em
        unfold zmarkP at em
        rw [em]
        refine zr_iload_n 88 rfl rfl rfl ?_
        refine zr_icmp_ge 93 91 rfl rfl (by decide) (fun c88z => ?_) (fun c88z => ?_)
        · refine zr_iinc 96 (c0 := 1) (L2 := [_, _, _, _]) rfl rfl rfl (by first | exact trivial | exact rfl) (by decide) rfl ?_
          refine zr_goto 52 rfl (by decide) ?_
          rw [nI_1]
          exact ih _ (by omega) i (v + 1) (nI v) _ rfl x2 (fun a ha => by rw [zun (by omega)]; exact f1 a ha) hi (by omega) (by rw [ee, if_neg (Int32.not_lt.mpr c88z)])
        · refine zr_iload_n 92 rfl rfl rfl ?_
          refine zr_iret rfl rfl ?_
          exact ⟨_, rfl, by rw [ee, if_pos (Int32.not_le.mp c88z)], fun a ha => by rw [zun (by omega)]; exact f1 a ha⟩
  refine zr_aload_n 1 rfl rfl rfl trivial ?_
  refine zr_iload_n 2 rfl rfl rfl ?_
  refine zr_callv 5 (As := [_]) (u2 := (0, 0)) rfl rfl rfl rfl rfl rfl rfl (Nat.le_of_ble_eq_true rfl) (Nat.le_of_ble_eq_true rfl) (Nat.le_of_ble_eq_true rfl) rfl (c_isPerson _) rfl (fun v2 w2 h2z => ?_)
  obtain ⟨rfl, rfl⟩ := h2z
  refine zr_if_eq 19 8 rfl rfl (by decide) (fun c5z => ?_) (fun c5z => ?_)
  · replace c5z := zb_0.mp c5z
    refine zr_iconst 20 (x := (-1)) rfl rfl (by decide) ?_
    refine zr_iret rfl rfl ?_
    refine ⟨ξ, rfl, ?_, fun _ _ => rfl⟩
    by_cases q : mk < 1 ∨ 120 < mk
    · rw [if_pos q]
    · rw [if_neg q, zper_out h.hm _ c5z]
  · replace c5z := zb_n0.mp c5z
    refine zr_iload_n 9 rfl rfl rfl ?_
    refine zr_iconst 10 (x := 1) rfl rfl (by decide) ?_
    refine zr_icmp_lt 19 13 rfl rfl (by decide) (fun c10z => ?_) (fun c10z => ?_)
    · refine zr_iconst 20 (x := (-1)) rfl rfl (by decide) ?_
      refine zr_iret rfl rfl ?_
      refine ⟨ξ, rfl, ?_, fun _ _ => rfl⟩
      rw [if_pos (Or.inl c10z)]
    · refine zr_iload_n 14 rfl rfl rfl ?_
      refine zr_bipush 16 (x := 120) rfl rfl (by decide) ?_
      refine zr_icmp_le 21 19 rfl rfl (by decide) (fun c16z => ?_) (fun c16z => ?_)
      · obtain ⟨i, hi, rfl⟩ := zperI h.hm (by omega) c5z
        have hmk : ¬ (mk < 1 ∨ 120 < mk) := fun q => q.elim c10z (fun z => absurd c16z (Int32.not_le.mpr z))
        have ee : (if mk < 1 ∨ 120 < mk then -1 else zper K (nI i) (K.enou mk)) = K.enou mk i := by rw [if_neg hmk, zper_in hm6 hi]
        refine zr_aload_n 22 rfl rfl rfl trivial ?_
        refine zr_getf 25 rfl rfl rfl rfl rfl ?_
        refine zr_aload_n 26 rfl rfl rfl trivial ?_
        refine zr_getf 29 rfl rfl rfl rfl rfl ?_
        refine zr_callv 32 (As := [_]) (u2 := (0, 0)) rfl rfl rfl rfl rfl rfl rfl (Nat.le_of_ble_eq_true rfl) (Nat.le_of_ble_eq_true rfl) (Nat.le_of_ble_eq_true rfl) rfl (k_copy zc23 zc1 (by decide) h hK) rfl (fun v2 w2 h29z => ?_)
        obtain ⟨rfl, ξ1, rfl, x1, f1⟩ := h29z
        refine zr_aload_n 33 rfl rfl rfl trivial ?_
        refine zr_getf 36 rfl rfl rfl rfl rfl ?_
        refine zr_iload_n 37 rfl rfl rfl ?_
        refine zr_callv 40 (As := [_]) (u2 := (0, 0)) rfl rfl rfl rfl rfl rfl rfl (Nat.le_of_ble_eq_true rfl) (Nat.le_of_ble_eq_true rfl) (Nat.le_of_ble_eq_true rfl) rfl (k_finish zc23 x1 hK hi) rfl (fun v2 w2 h37z => ?_)
        obtain ⟨rfl, ξ2, rfl, x2, f2⟩ := h37z
        refine zr_if_ge 46 43 rfl rfl (by decide) (fun c40z => ?_) (fun c40z => ?_)
        · rw [zfin_mk] at c40z
          refine zr_gets 49 rfl rfl rfl ?_
          refine zr_iconst 50 (x := 2) rfl rfl (by decide) ?_
          refine zr_ialc 51 (i := 2) rfl rfl (by decide) (by decide) (show vp_in 2 5 by unfold vp_in; decide) ?_
          refine zr_istore_n 52 (L2 := [_, _, _, _]) rfl rfl (Nat.le_of_ble_eq_true rfl) (by first | exact trivial | exact rfl) rfl ?_
          refine key _ i 0 ((K.fin i).law 2) ξ2 rfl ?_ (fun a ha => by rw [f2 a ha, f1 a ha]) hi (by omega) (by rw [ee, zCs.enou, if_neg (Int32.not_lt.mpr c40z)])
          rw [zslaw_same]
          exact x2
        · rw [zfin_mk] at c40z
          refine zr_bipush 45 (x := (-3)) rfl rfl (by decide) ?_
          refine zr_iret rfl rfl ?_
          exact ⟨ξ2, rfl, by rw [ee, zCs.enou, if_pos (Int32.not_le.mp c40z)], fun a ha => by rw [f2 a ha, f1 a ha]⟩
      · refine zr_iconst 20 (x := (-1)) rfl rfl (by decide) ?_
        refine zr_iret rfl rfl ?_
        refine ⟨ξ, rfl, ?_, fun _ _ => rfl⟩
        rw [if_pos (Or.inr (Int32.not_le.mp c16z))]
set_option maxRecDepth 20000 in
set_option maxHeartbeats 1000000 in
theorem c_patience {S : Nat × (Nat → Int32)} {d n : Nat} {ξ : Nat → Nat → Int32} {ρ : zRho} {K : zCs} (h : zXR ξ 1 K) (hK : zOK K) (x : Int32) : Zc S (d + 8) jX5_patience [.ref 0, .int x] (zWof n ξ ρ) (fun r w => ∃ ξ2, w = zWof n ξ2 ρ ∧ r = some (.int (zper K x (fun i => K.pat i 10 0 (-3) (-1)))) ∧ zfrA 23 ξ ξ2) := by
  have hd3 := hK.d3
  have hm6 := hK.m6
  have ht60 := hK.t60
  refine Zc_in (q := (5, 0, 1, 1, 6, 0, 0, zk_X5_patience)) rfl (Nat.le_of_ble_eq_true rfl) (L := [_, _, _, _, _, _]) rfl ?_
  have key : ∀ (k : Nat) (i : Nat) (a : Nat) (best : Int32) (most : Int32) (ξ1 : Nat → Nat → Int32), 10 - a = k → zfrA 23 ξ ξ1 → i < K.M → a ≤ 10 → zper K x (fun i => K.pat i 10 0 (-3) (-1)) = K.pat i (10 - a) a best most →  Zw S (Zc S (d + 7)) 5 false 1 zk_X5_patience (fun r w => ∃ ξ2, w = zWof n ξ2 ρ ∧ r = some (.int (zper K x (fun i => K.pat i 10 0 (-3) (-1)))) ∧ zfrA 23 ξ ξ2) (18, [some (.ref 0), some (.int (nI i)), some (.int best), some (.int most), some (.int (nI a)), none], [], (0, 0), zWof n ξ1 ρ) := by
    intro k
    induction k using Nat.strongRecOn with
    | ind k ih =>
      intro i a best most ξ1 hk f1 hi ha ee
      have h1 : zXR ξ1 1 K := h.fr hm6 (fun a a1 a2 => f1 a (Or.inl (by omega)))
      refine zr_iload 20 rfl rfl rfl ?_
      refine zr_bipush 22 (x := 9) rfl rfl (by decide) ?_
      refine zr_icmp_gt 78 25 rfl rfl (by decide) (fun c22z => ?_) (fun c22z => ?_)
      · rw [show (9 : Int32) = nI 9 from rfl, nI_ltI (by omega) (by omega)] at c22z
        refine zr_iload_n 79 rfl rfl rfl ?_
        refine zr_iret rfl rfl ?_
        exact ⟨ξ1, rfl, by rw [ee, show 10 - a = 0 by omega]; rfl, f1⟩
      · rw [show (9 : Int32) = nI 9 from rfl, nI_ltI (by omega) (by omega)] at c22z
        rw [show 10 - a = 10 - (a + 1) + 1 by omega, zCs.pat] at ee
        refine zr_aload_n 26 rfl rfl rfl trivial ?_
        refine zr_getf 29 rfl rfl rfl rfl rfl ?_
        refine zr_aload_n 30 rfl rfl rfl trivial ?_
        refine zr_getf 33 rfl rfl rfl rfl rfl ?_
        refine zr_callv 36 (As := [_]) (u2 := (0, 0)) rfl rfl rfl rfl rfl rfl rfl (Nat.le_of_ble_eq_true rfl) (Nat.le_of_ble_eq_true rfl) (Nat.le_of_ble_eq_true rfl) rfl (k_copy zc23 zc1 (by decide) h1 hK) rfl (fun v2 w2 h33z => ?_)
        obtain ⟨rfl, ξ2, rfl, x2, f2⟩ := h33z
        refine zr_aload_n 37 rfl rfl rfl trivial ?_
        refine zr_getf 40 rfl rfl rfl rfl rfl ?_
        refine zr_getf 43 rfl rfl rfl rfl rfl ?_
        refine zr_iload_n 44 rfl rfl rfl ?_
        refine zr_aald 45 rfl rfl rfl (by decide) (nI_clamp (by omega)) (vp_in_nI (by omega) (by omega)) (zrf_ps (by omega)) ?_
        refine zr_iload 47 rfl rfl rfl ?_
        refine zr_putf 50 rfl rfl rfl (zc_pe (zP zc23 (by omega))) (Nat.le_of_ble_eq_true rfl) rfl trivial (fun h => by cases h) (zs_pe (zP zc23 (by omega)) 1 (by decide) _) ?_
        refine zr_aload_n 51 rfl rfl rfl trivial ?_
        refine zr_getf 54 rfl rfl rfl rfl rfl ?_
        refine zr_iload_n 55 rfl rfl rfl ?_
        refine zr_callv 58 (As := [_]) (u2 := (0, 0)) rfl rfl rfl rfl rfl rfl rfl (Nat.le_of_ble_eq_true rfl) (Nat.le_of_ble_eq_true rfl) (Nat.le_of_ble_eq_true rfl) rfl (k_finish zc23 (x2.sp (nI a)) (hK.sp i (fun _ => (hK.hp i hi).a (by rw [nI_toInt (by omega)]; omega))) hi) rfl (fun v2 w2 h55z => ?_)
        obtain ⟨rfl, ξ3, rfl, x3, f3⟩ := h55z
        rw [zfin_mk]
        have f4 : zfrA 23 ξ ξ3 := fun b hb => by rw [f3 b hb, zun (by omega), f2 b hb, f1 b hb]
        refine zr_istore 60 (L2 := [_, _, _, _, _, _]) rfl rfl (Nat.le_of_ble_eq_true rfl) (by first | exact trivial | exact rfl) rfl ?_
        refine zr_iload 62 rfl rfl rfl ?_
        refine zr_iload_n 63 rfl rfl rfl ?_
        refine zr_icmp_le 72 66 rfl rfl (by decide) (fun c63z => ?_) (fun c63z => ?_)
        · refine zr_iinc 75 (c0 := 1) (L2 := [_, _, _, _, _, _]) rfl rfl rfl (by first | exact trivial | exact rfl) (by decide) rfl ?_
          refine zr_goto 18 rfl (by decide) ?_
          rw [nI_1]
          refine zs_forget (L' := [_, _, _, _, _, none]) (zsub_s (zsub_s (zsub_s (zsub_s (zsub_s (zsub_n zsub_0)))))) ?_
          exact ih _ (by omega) i (a + 1) best most ξ3 rfl f4 hi (by omega) (by rw [ee, if_neg (Int32.not_lt.mpr c63z)])
        · refine zr_iload 68 rfl rfl rfl ?_
          refine zr_istore_n 69 (L2 := [_, _, _, _, _, _]) rfl rfl (Nat.le_of_ble_eq_true rfl) (by first | exact trivial | exact rfl) rfl ?_
          refine zr_iload 71 rfl rfl rfl ?_
          refine zr_istore_n 72 (L2 := [_, _, _, _, _, _]) rfl rfl (Nat.le_of_ble_eq_true rfl) (by first | exact trivial | exact rfl) rfl ?_
          refine zr_iinc 75 (c0 := 1) (L2 := [_, _, _, _, _, _]) rfl rfl rfl (by first | exact trivial | exact rfl) (by decide) rfl ?_
          refine zr_goto 18 rfl (by decide) ?_
          rw [nI_1]
          refine zs_forget (L' := [_, _, _, _, _, none]) (zsub_s (zsub_s (zsub_s (zsub_s (zsub_s (zsub_n zsub_0)))))) ?_
          exact ih _ (by omega) i (a + 1) _ _ ξ3 rfl f4 hi (by omega) (by rw [ee, if_pos (Int32.not_le.mp c63z)])
  refine zr_aload_n 1 rfl rfl rfl trivial ?_
  refine zr_iload_n 2 rfl rfl rfl ?_
  refine zr_callv 5 (As := [_]) (u2 := (0, 0)) rfl rfl rfl rfl rfl rfl rfl (Nat.le_of_ble_eq_true rfl) (Nat.le_of_ble_eq_true rfl) (Nat.le_of_ble_eq_true rfl) rfl (c_isPerson _) rfl (fun v2 w2 h2z => ?_)
  obtain ⟨rfl, rfl⟩ := h2z
  refine zr_if_ne 10 8 rfl rfl (by decide) (fun c5z => ?_) (fun c5z => ?_)
  · replace c5z := zb_n0.mp c5z
    obtain ⟨i, hi, rfl⟩ := zperI h.hm (by omega) c5z
    refine zr_bipush 12 (x := (-3)) rfl rfl (by decide) ?_
    refine zr_istore_n 13 (L2 := [_, _, _, _, _, _]) rfl rfl (Nat.le_of_ble_eq_true rfl) (by first | exact trivial | exact rfl) rfl ?_
    refine zr_iconst 14 (x := (-1)) rfl rfl (by decide) ?_
    refine zr_istore_n 15 (L2 := [_, _, _, _, _, _]) rfl rfl (Nat.le_of_ble_eq_true rfl) (by first | exact trivial | exact rfl) rfl ?_
    refine zr_iconst 16 (x := 0) rfl rfl (by decide) ?_
    refine zr_istore 18 (L2 := [_, _, _, _, _, _]) rfl rfl (Nat.le_of_ble_eq_true rfl) (by first | exact trivial | exact rfl) rfl ?_
    exact key _ i 0 (-3) (-1) ξ rfl (fun _ _ => rfl) hi (by omega) (zper_in hm6 hi _)
  · replace c5z := zb_0.mp c5z
    refine zr_iconst 9 (x := (-1)) rfl rfl (by decide) ?_
    refine zr_iret rfl rfl ?_
    refine ⟨ξ, rfl, ?_, fun _ _ => rfl⟩
    rw [show zper K x (fun i => K.pat i 10 0 (-3) (-1)) = _ from zper_out h.hm _ c5z]
set_option maxRecDepth 20000 in
set_option maxHeartbeats 1000000 in
theorem c_worst {S : Nat × (Nat → Int32)} {d n : Nat} {ξ : Nat → Nat → Int32} {ρ : zRho} {K : zCs} (h : zXR ξ 1 K) (hK : zOK K) (x : Int32) : Zc S (d + 8) jX5_worst [.ref 0, .int x] (zWof n ξ ρ) (fun r w => ∃ ξ2, w = zWof n ξ2 ρ ∧ r = some (.int (zper K x (fun i => K.wrs i (30 - K.T) K.T (-3) 121))) ∧ zfrA 23 ξ ξ2) := by
  have hd3 := hK.d3
  have hm6 := hK.m6
  have ht60 := hK.t60
  refine Zc_in (q := (5, 0, 1, 1, 6, 0, 0, zk_X5_worst)) rfl (Nat.le_of_ble_eq_true rfl) (L := [_, _, _, _, _, _]) rfl ?_
  have key : ∀ (k : Nat) (i : Nat) (j : Nat) (best : Int32) (least : Int32) (ξ1 : Nat → Nat → Int32), 60 - j = k → zfrA 23 ξ ξ1 → i < K.M → j ≤ 60 → zper K x (fun i => K.wrs i (30 - K.T) K.T (-3) 121) = K.wrs i (30 - j) j best least →  Zw S (Zc S (d + 7)) 5 false 1 zk_X5_worst (fun r w => ∃ ξ2, w = zWof n ξ2 ρ ∧ r = some (.int (zper K x (fun i => K.wrs i (30 - K.T) K.T (-3) 121))) ∧ zfrA 23 ξ ξ2) (25, [some (.ref 0), some (.int (nI i)), some (.int best), some (.int least), some (.int (nI j)), none], [], (0, 0), zWof n ξ1 ρ) := by
    intro k
    induction k using Nat.strongRecOn with
    | ind k ih =>
      intro i j best least ξ1 hk f1 hi hj ee
      have h1 : zXR ξ1 1 K := h.fr hm6 (fun a a1 a2 => f1 a (Or.inl (by omega)))
      refine zr_iload 27 rfl rfl rfl ?_
      refine zr_bipush 29 (x := 30) rfl rfl (by decide) ?_
      refine zr_icmp_ge 112 32 rfl rfl (by decide) (fun c29z => ?_) (fun c29z => ?_)
      · rw [show (30 : Int32) = nI 30 from rfl, nI_leI (by omega) (by omega)] at c29z
        refine zr_iload_n 113 rfl rfl rfl ?_
        refine zr_iret rfl rfl ?_
        exact ⟨ξ1, rfl, by rw [ee, show 30 - j = 0 by omega]; rfl, f1⟩
      · have c29zl : nI j < 30 := Int32.not_le.mp c29z
        rw [show (30 : Int32) = nI 30 from rfl, nI_leI (by omega) (by omega)] at c29z
        rw [show 30 - j = 30 - (j + 1) + 1 by omega, zCs.wrs] at ee
        refine zr_aload_n 33 rfl rfl rfl trivial ?_
        refine zr_getf 36 rfl rfl rfl rfl rfl ?_
        refine zr_getf 39 rfl rfl rfl rfl rfl ?_
        refine zr_iload_n 40 rfl rfl rfl ?_
        refine zr_aald 41 rfl rfl rfl (by decide) (nI_clamp (by omega)) (vp_in_nI (by omega) (by omega)) (zrf_ps (by omega)) ?_
        refine zr_iload 43 rfl rfl rfl ?_
        refine zr_callv 46 (As := [_]) (u2 := (0, 0)) rfl rfl rfl rfl rfl rfl rfl (Nat.le_of_ble_eq_true rfl) (Nat.le_of_ble_eq_true rfl) (Nat.le_of_ble_eq_true rfl) (zc_pe (zP zc1 (by omega))) (c_isIllOn (zP zc1 (by omega)) _) rfl (fun v2 w2 h43z => ?_)
        obtain ⟨rfl, rfl⟩ := h43z
        refine zr_if_eq 52 49 rfl rfl (by decide) (fun c46z => ?_) (fun c46z => ?_)
        · replace c46z := zb_0.mp c46z
          rw [h1.hp i hi 4 (by decide)] at c46z
          rw [if_neg (fun q => c46z ⟨c29zl, q⟩)] at ee
          refine zr_aload_n 53 rfl rfl rfl trivial ?_
          refine zr_getf 56 rfl rfl rfl rfl rfl ?_
          refine zr_aload_n 57 rfl rfl rfl trivial ?_
          refine zr_getf 60 rfl rfl rfl rfl rfl ?_
          refine zr_callv 63 (As := [_]) (u2 := (0, 0)) rfl rfl rfl rfl rfl rfl rfl (Nat.le_of_ble_eq_true rfl) (Nat.le_of_ble_eq_true rfl) (Nat.le_of_ble_eq_true rfl) rfl (k_copy zc23 zc1 (by decide) h1 hK) rfl (fun v2 w2 h60z => ?_)
          obtain ⟨rfl, ξ2, rfl, x2, f2⟩ := h60z
          refine zr_aload_n 64 rfl rfl rfl trivial ?_
          refine zr_getf 67 rfl rfl rfl rfl rfl ?_
          refine zr_getf 70 rfl rfl rfl rfl rfl ?_
          refine zr_iload_n 71 rfl rfl rfl ?_
          refine zr_aald 72 rfl rfl rfl (by decide) (nI_clamp (by omega)) (vp_in_nI (by omega) (by omega)) (zrf_ps (by omega)) ?_
          refine zr_dup 73 rfl rfl rfl ?_
          refine zr_getf 76 rfl rfl rfl (zc_pe (zP zc23 (by omega))) rfl ?_
          refine zr_iconst 77 (x := 1) rfl rfl (by decide) ?_
          refine zr_iload 79 rfl rfl rfl ?_
          refine zr_ishl 80 rfl rfl ?_
          refine zr_ior 81 rfl rfl ?_
          rw [x2.hp i hi 4 (by decide)]
          refine zr_putf 84 rfl rfl rfl (zc_pe (zP zc23 (by omega))) (Nat.le_of_ble_eq_true rfl) rfl trivial (fun h => by cases h) (zs_pe (zP zc23 (by omega)) 4 (by decide) _) ?_
          refine zr_aload_n 85 rfl rfl rfl trivial ?_
          refine zr_getf 88 rfl rfl rfl rfl rfl ?_
          refine zr_iload_n 89 rfl rfl rfl ?_
          refine zr_callv 92 (As := [_]) (u2 := (0, 0)) rfl rfl rfl rfl rfl rfl rfl (Nat.le_of_ble_eq_true rfl) (Nat.le_of_ble_eq_true rfl) (Nat.le_of_ble_eq_true rfl) rfl (k_finish (K := K.wil i j) zc23 (x2.sp _) (hK.sp i (fun _ => (hK.hp i hi).ill _)) hi) rfl (fun v2 w2 h89z => ?_)
          obtain ⟨rfl, ξ3, rfl, x3, f3⟩ := h89z
          rw [zfin_mk]
          have f4 : zfrA 23 ξ ξ3 := fun b hb => by rw [f3 b hb, zun (by omega), f2 b hb, f1 b hb]
          refine zr_istore 94 (L2 := [_, _, _, _, _, _]) rfl rfl (Nat.le_of_ble_eq_true rfl) (by first | exact trivial | exact rfl) rfl ?_
          refine zr_iload 96 rfl rfl rfl ?_
          refine zr_iload_n 97 rfl rfl rfl ?_
          refine zr_icmp_ge 106 100 rfl rfl (by decide) (fun c97z => ?_) (fun c97z => ?_)
          · refine zr_iinc 109 (c0 := 1) (L2 := [_, _, _, _, _, _]) rfl rfl rfl (by first | exact trivial | exact rfl) (by decide) rfl ?_
            refine zr_goto 25 rfl (by decide) ?_
            rw [nI_1]
            refine zs_forget (L' := [_, _, _, _, _, none]) (zsub_s (zsub_s (zsub_s (zsub_s (zsub_s (zsub_n zsub_0)))))) ?_
            exact ih _ (by omega) i (j + 1) best least ξ3 rfl f4 hi (by omega) (by rw [ee, if_neg (Int32.not_lt.mpr c97z)])
          · refine zr_iload 102 rfl rfl rfl ?_
            refine zr_istore_n 103 (L2 := [_, _, _, _, _, _]) rfl rfl (Nat.le_of_ble_eq_true rfl) (by first | exact trivial | exact rfl) rfl ?_
            refine zr_iload 105 rfl rfl rfl ?_
            refine zr_istore_n 106 (L2 := [_, _, _, _, _, _]) rfl rfl (Nat.le_of_ble_eq_true rfl) (by first | exact trivial | exact rfl) rfl ?_
            refine zr_iinc 109 (c0 := 1) (L2 := [_, _, _, _, _, _]) rfl rfl rfl (by first | exact trivial | exact rfl) (by decide) rfl ?_
            refine zr_goto 25 rfl (by decide) ?_
            rw [nI_1]
            refine zs_forget (L' := [_, _, _, _, _, none]) (zsub_s (zsub_s (zsub_s (zsub_s (zsub_s (zsub_n zsub_0)))))) ?_
            exact ih _ (by omega) i (j + 1) _ _ ξ3 rfl f4 hi (by omega) (by rw [ee, if_pos (Int32.not_le.mp c97z)])
        · replace c46z := zb_n0.mp c46z
          rw [h1.hp i hi 4 (by decide)] at c46z
          rw [if_pos c46z.2] at ee
          refine zr_goto 106 rfl (by decide) ?_
          refine zr_iinc 109 (c0 := 1) (L2 := [_, _, _, _, _, _]) rfl rfl rfl (by first | exact trivial | exact rfl) (by decide) rfl ?_
          refine zr_goto 25 rfl (by decide) ?_
          rw [nI_1]
          exact ih _ (by omega) i (j + 1) best least ξ1 rfl f1 hi (by omega) ee
  refine zr_aload_n 1 rfl rfl rfl trivial ?_
  refine zr_iload_n 2 rfl rfl rfl ?_
  refine zr_callv 5 (As := [_]) (u2 := (0, 0)) rfl rfl rfl rfl rfl rfl rfl (Nat.le_of_ble_eq_true rfl) (Nat.le_of_ble_eq_true rfl) (Nat.le_of_ble_eq_true rfl) rfl (c_isPerson _) rfl (fun v2 w2 h2z => ?_)
  obtain ⟨rfl, rfl⟩ := h2z
  refine zr_if_ne 10 8 rfl rfl (by decide) (fun c5z => ?_) (fun c5z => ?_)
  · replace c5z := zb_n0.mp c5z
    obtain ⟨i, hi, rfl⟩ := zperI h.hm (by omega) c5z
    refine zr_bipush 12 (x := (-3)) rfl rfl (by decide) ?_
    refine zr_istore_n 13 (L2 := [_, _, _, _, _, _]) rfl rfl (Nat.le_of_ble_eq_true rfl) (by first | exact trivial | exact rfl) rfl ?_
    refine zr_bipush 15 (x := 121) rfl rfl (by decide) ?_
    refine zr_istore_n 16 (L2 := [_, _, _, _, _, _]) rfl rfl (Nat.le_of_ble_eq_true rfl) (by first | exact trivial | exact rfl) rfl ?_
    refine zr_aload_n 17 rfl rfl rfl trivial ?_
    refine zr_getf 20 rfl rfl rfl rfl rfl ?_
    refine zr_getf 23 rfl rfl rfl rfl rfl ?_
    refine zr_istore 25 (L2 := [_, _, _, _, _, _]) rfl rfl (Nat.le_of_ble_eq_true rfl) (by first | exact trivial | exact rfl) rfl ?_
    rw [h.ht]
    exact key _ i K.T (-3) 121 ξ rfl (fun _ _ => rfl) hi ht60 (zper_in hm6 hi _)
  · replace c5z := zb_0.mp c5z
    refine zr_iconst 9 (x := (-1)) rfl rfl (by decide) ?_
    refine zr_iret rfl rfl ?_
    refine ⟨ξ, rfl, ?_, fun _ _ => rfl⟩
    rw [show zper K x (fun i => K.wrs i (30 - K.T) K.T (-3) 121) = _ from zper_out h.hm _ c5z]
set_option maxRecDepth 20000 in
set_option maxHeartbeats 1000000 in
theorem c_sooner {S : Nat × (Nat → Int32)} {d n : Nat} {ξ : Nat → Nat → Int32} {ρ : zRho} {K : zCs} (h : zXR ξ 1 K) (hK : zOK K) : Zc S (d + 8) jX5_sooner [.ref 0] (zWof n ξ ρ) (fun r w => ∃ ξ2, w = zWof n ξ2 ρ ∧ r = some (.int (K.soon)) ∧ zfrA 23 ξ ξ2) := by
  have hd3 := hK.d3
  have hm6 := hK.m6
  have ht60 := hK.t60
  refine Zc_in (q := (5, 0, 1, 0, 4, 0, 0, zk_X5_sooner)) rfl (Nat.le_of_ble_eq_true rfl) (L := [_, _, _, _]) rfl ?_
  have hs0 : 1 ≤ K.soo0 ∧ K.soo0 ≤ 50 ∧ ∀ i, i < K.D → (K.dd i).toInt < (K.soo0 : Int) := by
    have hl0 := hK.l0
    unfold zCs.soo0
    by_cases q : 0 < K.D
    · rw [if_pos q]
      have a := hK.hdd (K.D - 1) (by omega)
      refine ⟨by omega, by omega, fun i hi => ?_⟩
      have b := zsortD hK.hds (K.D - 1) i (by omega) (by omega)
      omega
    · rw [if_neg q]
      exact ⟨by omega, by omega, fun i hi => by omega⟩
  have key : ∀ (k : Nat) (v : Nat) (l2 : Int32) (ξ1 : Nat → Nat → Int32), 51 - v = k → zfrA 23 ξ ξ1 → K.soo0 ≤ v → v ≤ 51 → K.soon = zfirstF (fun v => ((K.slaw 0 (nI v)).go 60).lts &&& ((K.go 60).lts ^^^ -1) = 0) (51 - v) v →  Zw S (Zc S (d + 7)) 5 false 1 zk_X5_sooner (fun r w => ∃ ξ2, w = zWof n ξ2 ρ ∧ r = some (.int (K.soon)) ∧ zfrA 23 ξ ξ2) (52, [some (.ref 0), some (.int (K.go 60).lts), some (.int l2), some (.int (nI v))], [], (0, 0), zWof n ξ1 ρ) := by
    intro k
    induction k using Nat.strongRecOn with
    | ind k ih =>
      intro v l2 ξ1 hk f1 hv0 hv ee
      have h1 : zXR ξ1 1 K := h.fr hm6 (fun a a1 a2 => f1 a (Or.inl (by omega)))
      refine zr_iload_n 53 rfl rfl rfl ?_
      refine zr_gets 56 rfl rfl rfl ?_
      refine zr_iconst 57 (x := 0) rfl rfl (by decide) ?_
      refine zr_ialc 58 (i := 0) rfl rfl (by decide) (by decide) (show vp_in 0 5 by unfold vp_in; decide) ?_
      refine zr_icmp_gt 113 61 rfl rfl (by decide) (fun c58z => ?_) (fun c58z => ?_)
      · rw [show (zct S 1).2 0 = nI 50 from rfl, nI_ltI (by omega) (by omega)] at c58z
        refine zr_bipush 115 (x := (-3)) rfl rfl (by decide) ?_
        refine zr_iret rfl rfl ?_
        exact ⟨ξ1, rfl, by rw [ee, show 51 - v = 0 by omega]; rfl, f1⟩
      · rw [show (zct S 1).2 0 = nI 50 from rfl, nI_ltI (by omega) (by omega)] at c58z
        rw [show 51 - v = 51 - (v + 1) + 1 by omega, zfirstF] at ee
        refine zr_aload_n 62 rfl rfl rfl trivial ?_
        refine zr_getf 65 rfl rfl rfl rfl rfl ?_
        refine zr_aload_n 66 rfl rfl rfl trivial ?_
        refine zr_getf 69 rfl rfl rfl rfl rfl ?_
        refine zr_callv 72 (As := [_]) (u2 := (0, 0)) rfl rfl rfl rfl rfl rfl rfl (Nat.le_of_ble_eq_true rfl) (Nat.le_of_ble_eq_true rfl) (Nat.le_of_ble_eq_true rfl) rfl (k_copy zc23 zc1 (by decide) h1 hK) rfl (fun v2 w2 h69z => ?_)
        obtain ⟨rfl, ξ2, rfl, x2, f2⟩ := h69z
        refine zr_aload_n 73 rfl rfl rfl trivial ?_
        refine zr_getf 76 rfl rfl rfl rfl rfl ?_
        refine zr_getf 79 rfl rfl rfl rfl rfl ?_
        refine zr_iconst 80 (x := 0) rfl rfl (by decide) ?_
        refine zr_iload_n 81 rfl rfl rfl ?_
        refine zr_iast 82 (i := 0) rfl rfl rfl (by decide) (by unfold vp_in; decide) (zW_set rfl) ?_
        refine zr_aload_n 83 rfl rfl rfl trivial ?_
        refine zr_getf 86 rfl rfl rfl rfl rfl ?_
        refine zr_bipush 88 (x := 60) rfl rfl (by decide) ?_
        refine zr_callv 91 (As := [_]) (u2 := (0, 0)) rfl rfl rfl rfl rfl rfl rfl (Nat.le_of_ble_eq_true rfl) (Nat.le_of_ble_eq_true rfl) (Nat.le_of_ble_eq_true rfl) rfl (k_goTo (E := 60) zc23 (x2.slaw 0 (nI v)) (hK.due (by rw [nI_toInt (by omega)]; omega) (fun i hi => by rw [nI_toInt (by omega)]; have := hs0.2.2 i hi; omega)) ht60 (by decide)) rfl (fun v2 w2 h88z => ?_)
        obtain ⟨rfl, ξ3, rfl, x3, f3⟩ := h88z
        have f4 : zfrA 23 ξ ξ3 := fun b hb => by rw [f3 b hb, zun (by omega), f2 b hb, f1 b hb]
        refine zr_aload_n 92 rfl rfl rfl trivial ?_
        refine zr_getf 95 rfl rfl rfl rfl rfl ?_
        refine zr_callv 98 (As := []) (u2 := (0, 0)) rfl rfl rfl rfl rfl rfl rfl (Nat.le_of_ble_eq_true rfl) (Nat.le_of_ble_eq_true rfl) (Nat.le_of_ble_eq_true rfl) rfl (k_late zc23 x3 hm6) rfl (fun v2 w2 h95z => ?_)
        obtain ⟨rfl, rfl⟩ := h95z
        refine zr_iload_n 99 rfl rfl rfl ?_
        refine zr_iconst 100 (x := (-1)) rfl rfl (by decide) ?_
        refine zr_ixor 101 rfl rfl ?_
        refine zr_iand 102 rfl rfl ?_
        refine zr_if_ne 107 105 rfl rfl (by decide) (fun c102z => ?_) (fun c102z => ?_)
        · refine zr_iinc 110 (c0 := 1) (L2 := [_, _, _, _]) rfl rfl rfl (by first | exact trivial | exact rfl) (by decide) rfl ?_
          refine zr_goto 52 rfl (by decide) ?_
          rw [nI_1]
          exact ih _ (by omega) (v + 1) l2 ξ3 rfl f4 (by omega) (by omega) (by rw [ee, if_neg c102z])
        · refine zr_iload_n 106 rfl rfl rfl ?_
          refine zr_iret rfl rfl ?_
          exact ⟨ξ3, rfl, by rw [ee, if_pos c102z], f4⟩
  refine zr_aload_n 1 rfl rfl rfl trivial ?_
  refine zr_callv 4 (As := []) (u2 := (0, 0)) rfl rfl rfl rfl rfl rfl rfl (Nat.le_of_ble_eq_true rfl) (Nat.le_of_ble_eq_true rfl) (Nat.le_of_ble_eq_true rfl) rfl (c_tryAsItIs h hK) rfl (fun v2 w2 h1z => ?_)
  obtain ⟨rfl, ξ1, rfl, x1, f1⟩ := h1z
  refine zr_aload_n 5 rfl rfl rfl trivial ?_
  refine zr_getf 8 rfl rfl rfl rfl rfl ?_
  refine zr_callv 11 (As := []) (u2 := (0, 0)) rfl rfl rfl rfl rfl rfl rfl (Nat.le_of_ble_eq_true rfl) (Nat.le_of_ble_eq_true rfl) (Nat.le_of_ble_eq_true rfl) rfl (k_late zc23 x1 hm6) rfl (fun v2 w2 h8z => ?_)
  obtain ⟨rfl, rfl⟩ := h8z
  have h1 : zXR ξ1 1 K := h.fr hm6 (fun a a1 a2 => f1 a (Or.inl (by omega)))
  refine zr_istore_n 12 (L2 := [_, _, _, _]) rfl rfl (Nat.le_of_ble_eq_true rfl) (by first | exact trivial | exact rfl) rfl ?_
  refine zr_aload_n 13 rfl rfl rfl trivial ?_
  refine zr_getf 16 rfl rfl rfl rfl rfl ?_
  refine zr_getf 19 rfl rfl rfl rfl rfl ?_
  refine zr_if_le 44 22 rfl rfl (by decide) (fun c19z => ?_) (fun c19z => ?_)
  · rw [h1.hd] at c19z
    have hD : K.D = 0 := Nat.eq_zero_of_not_pos (fun q => nI_nle q (by omega) c19z)
    refine zr_gets 47 rfl rfl rfl ?_
    refine zr_iconst 48 (x := 0) rfl rfl (by decide) ?_
    refine zr_ialc 49 (i := 0) rfl rfl (by decide) (by decide) (show vp_in 0 5 by unfold vp_in; decide) ?_
    refine zr_istore_n 50 (L2 := [_, _, _, _]) rfl rfl (Nat.le_of_ble_eq_true rfl) (by first | exact trivial | exact rfl) rfl ?_
    refine zr_iload_n 51 rfl rfl rfl ?_
    refine zr_istore_n 52 (L2 := [_, _, _, _]) rfl rfl (Nat.le_of_ble_eq_true rfl) (by first | exact trivial | exact rfl) rfl ?_
    have e0 : K.soo0 = 1 := by
      unfold zCs.soo0
      rw [if_neg (by omega)]
    exact key _ 1 _ ξ1 rfl f1 (by omega) (by omega) (by unfold zCs.soon; rw [e0])
  · rw [h1.hd] at c19z
    have hD : 0 < K.D := Nat.pos_of_ne_zero (fun q => c19z (by rw [q]; decide))
    obtain ⟨D2, hD2⟩ : ∃ z, K.D = z + 1 := ⟨K.D - 1, by omega⟩
    refine zr_aload_n 23 rfl rfl rfl trivial ?_
    refine zr_getf 26 rfl rfl rfl rfl rfl ?_
    refine zr_getf 29 rfl rfl rfl rfl rfl ?_
    refine zr_aload_n 30 rfl rfl rfl trivial ?_
    refine zr_getf 33 rfl rfl rfl rfl rfl ?_
    refine zr_getf 36 rfl rfl rfl rfl rfl ?_
    refine zr_iconst 37 (x := 1) rfl rfl (by decide) ?_
    refine zr_isub 38 rfl rfl ?_
    rw [h1.hd, hD2, nI_pred]
    refine zr_iald 39 rfl rfl rfl (nI_clamp (by omega)) (vp_in_nI (by omega) (by omega)) ?_
    refine zr_iconst 40 (x := 1) rfl rfl (by decide) ?_
    refine zr_iadd 41 rfl rfl ?_
    refine zr_goto 49 rfl (by decide) ?_
    refine zr_istore_n 50 (L2 := [_, _, _, _]) rfl rfl (Nat.le_of_ble_eq_true rfl) (by first | exact trivial | exact rfl) rfl ?_
    refine zr_iload_n 51 rfl rfl rfl ?_
    refine zr_istore_n 52 (L2 := [_, _, _, _]) rfl rfl (Nat.le_of_ble_eq_true rfl) (by first | exact trivial | exact rfl) rfl ?_
    have e0 : K.soo0 = (K.dd D2).toInt.toNat + 1 := by
      unfold zCs.soo0
      rw [if_pos hD, hD2]
      rfl
    have e1 : ξ1 3 D2 + 1 = nI K.soo0 := by
      rw [e0, ← nI_1, show ξ1 3 D2 = K.dd D2 from h1.hdd D2 (by omega)]
      congr 1
      have := hK.hdd D2 (by omega)
      have := hK.l0
      exact Int32.toInt_inj.mp (by rw [nI_toInt (by omega)]; omega)
    rw [e1]
    exact key _ K.soo0 _ ξ1 rfl f1 (by omega) (by omega) rfl
theorem zn3 (r : Nat) : nI r * 3 = nI (r * 3) := (Int32.ofNat_mul r 3).symm
theorem zn31 (r : Nat) : nI r * 3 + 1 = nI (r * 3 + 1) := by rw [zn3, nI_1]
theorem zn32 (r : Nat) : nI r * 3 + 2 = nI (r * 3 + 2) := by rw [zn3]; exact nI_add _ 2
theorem zminN {a b : Nat} (ha : a < 1000) (hb : b < 1000) : (if nI b < nI a then nI b else nI a) = nI (min a b) := by
  by_cases q : b < a
  · rw [if_pos ((nI_ltI (by omega) (by omega)).mpr q), Nat.min_eq_right (by omega)]
  · rw [if_neg (fun z => q ((nI_ltI (by omega) (by omega)).mp z)), Nat.min_eq_left (by omega)]
theorem znsub {a b : Nat} (h : b ≤ a) : nI a - nI b = nI (a - b) := by
  obtain ⟨c, rfl⟩ : ∃ c, a = b + c := ⟨a - b, by omega⟩
  rw [← nI_add, Nat.add_sub_cancel_left]
  exact (by rw [Int32.add_comm, Int32.add_sub_cancel] : nI b + nI c - nI b = nI c)
set_option maxRecDepth 20000 in
set_option maxHeartbeats 1000000 in
theorem c_prove {S : Nat × (Nat → Int32)} {d n : Nat} {ξ : Nat → Nat → Int32} {ρ : zRho} {K : zCs} (h : zXR ξ 1 K) (hK : zOK K) (x m : Int32) : Zc S (d + 5) jX5_prove [.ref 0, .int x, .int m] (zWof n ξ ρ) (fun r w => (¬ ((0 ≤ x ∧ x < nI K.M) ∧ 1 ≤ m ∧ m ≤ 20) → r = some (.int (-1)) ∧ w = zWof n ξ ρ) ∧ (∀ i mm, x = nI i → i < K.M → m = nI mm → 1 ≤ mm → mm ≤ 20 → ∃ ξ2, w = zWof n ξ2 ρ ∧ r = some (.int (nI (min mm (60 - K.T)))) ∧ ξ2 0 6 = nI (min mm (60 - K.T)) ∧ (∀ k, k ≠ 6 → ξ2 0 k = ξ 0 k) ∧ (∀ k, k < 3 * min mm (60 - K.T) → ξ2 36 k = K.rowF i k) ∧ ∀ a, a ≠ 0 → a ≠ 36 → (a < 23 ∨ 34 ≤ a) → ξ2 a = ξ a)) := by
  have hd3 := hK.d3
  have hm6 := hK.m6
  have ht60 := hK.t60
  refine Zc_in (q := (5, 0, 1, 2, 6, 0, 0, zk_X5_prove)) rfl (Nat.le_of_ble_eq_true rfl) (L := [_, _, _, _, _, _]) rfl ?_
  have key : ∀ (k : Nat) (i : Nat) (mm : Nat) (q : Nat) (ξ1 : Nat → Nat → Int32), 20 - q = k → i < K.M → mm ≤ 20 → zXR ξ1 23 (K.ws i (K.lv i q K.T)) → ξ1 0 6 = nI (min mm (60 - K.T)) → (∀ k, k ≠ 6 → ξ1 0 k = ξ 0 k) → (∀ k, k < q * 3 → ξ1 36 k = K.rowF i k) → (∀ a, a ≠ 0 → a ≠ 36 → (a < 23 ∨ 34 ≤ a) → ξ1 a = ξ a) → q ≤ min mm (60 - K.T) →  Zw S (Zc S (d + 4)) 5 false 1 zk_X5_prove (fun r w => ∃ ξ2, w = zWof n ξ2 ρ ∧ r = some (.int (nI (min mm (60 - K.T)))) ∧ ξ2 0 6 = nI (min mm (60 - K.T)) ∧ (∀ k, k ≠ 6 → ξ2 0 k = ξ 0 k) ∧ (∀ k, k < 3 * min mm (60 - K.T) → ξ2 36 k = K.rowF i k) ∧ ∀ a, a ≠ 0 → a ≠ 36 → (a < 23 ∨ 34 ≤ a) → ξ2 a = ξ a) (63, [some (.ref 0), some (.int (nI i)), some (.int (nI mm)), some (.ref (23 + 5 + i)), some (.int (nI q)), none], [], (0, 0), zWof n ξ1 ρ) := by
    intro k
    induction k using Nat.strongRecOn with
    | ind k ih =>
      intro i mm q ξ1 hk hi hm2 x1 hR f0 fr f1 hq
      have h1 : zXR ξ1 1 K := h.fr hm6 (fun a a1 a2 => f1 a (by omega) (by omega) (Or.inl (by omega)))
      have hT1 := h1.ht
      refine zr_iload 65 rfl rfl rfl ?_
      refine zr_aload_n 66 rfl rfl rfl trivial ?_
      refine zr_getf 69 rfl rfl rfl rfl rfl ?_
      refine zr_icmp_ge 137 72 rfl rfl (by decide) (fun c69z => ?_) (fun c69z => ?_)
      · rw [hR, nI_leI (by omega) (by omega)] at c69z
        refine zr_aload_n 138 rfl rfl rfl trivial ?_
        refine zr_getf 141 rfl rfl rfl rfl rfl ?_
        refine zr_iret rfl rfl ?_
        exact ⟨ξ1, rfl, by rw [hR], hR, f0, fun k hk => fr k (by omega), f1⟩
      · rw [hR, nI_leI (by omega) (by omega)] at c69z
        refine zr_aload_n 73 rfl rfl rfl trivial ?_
        refine zr_getf 76 rfl rfl rfl rfl rfl ?_
        refine zr_getf 79 rfl rfl rfl rfl rfl ?_
        refine zr_iload 81 rfl rfl rfl ?_
        refine zr_iadd 82 rfl rfl ?_
        rw [hT1, nI_add]
        refine zr_istore 84 (L2 := [_, _, _, _, _, _]) rfl rfl (Nat.le_of_ble_eq_true rfl) (by first | exact trivial | exact rfl) rfl ?_
        refine zr_aload_n 85 rfl rfl rfl trivial ?_
        refine zr_getf 88 rfl rfl rfl rfl rfl ?_
        refine zr_iload 90 rfl rfl rfl ?_
        refine zr_iconst 91 (x := 3) rfl rfl (by decide) ?_
        refine zr_imul 92 rfl rfl ?_
        refine zr_iload 94 rfl rfl rfl ?_
        rw [zn3]
        refine zr_iast 95 rfl rfl rfl (nI_clamp (by omega)) (vp_in_nI (by omega) (by omega)) (zW_set rfl) ?_
        refine zr_aload_n 96 rfl rfl rfl trivial ?_
        refine zr_getf 99 rfl rfl rfl rfl rfl ?_
        refine zr_iload 101 rfl rfl rfl ?_
        refine zr_iconst 102 (x := 3) rfl rfl (by decide) ?_
        refine zr_imul 103 rfl rfl ?_
        refine zr_iconst 104 (x := 1) rfl rfl (by decide) ?_
        refine zr_iadd 105 rfl rfl ?_
        refine zr_aload_n 106 rfl rfl rfl trivial ?_
        refine zr_getf 109 rfl rfl rfl rfl rfl ?_
        refine zr_aload_n 110 rfl rfl rfl trivial ?_
        refine zr_iload 112 rfl rfl rfl ?_
        refine zr_callv 115 (As := [_, _]) (u2 := (0, 0)) rfl rfl rfl rfl rfl rfl rfl (Nat.le_of_ble_eq_true rfl) (Nat.le_of_ble_eq_true rfl) (Nat.le_of_ble_eq_true rfl) rfl (k_liveDay zc23 (x1.fr hm6 (fun a a1 a2 => zun (by omega))) hK hi (by omega)) rfl (fun v2 w2 h112z => ?_)
        obtain ⟨rfl, ξ2, rfl, x2, f2⟩ := h112z
        replace f2 : zfrA 23 (zu ξ1 36 (q * 3) (nI (K.T + q))) ξ2 := f2
        rw [zn31]
        refine zr_iast 116 rfl rfl rfl (nI_clamp (by omega)) (vp_in_nI (by omega) (by omega)) (zW_set rfl) ?_
        refine zr_aload_n 117 rfl rfl rfl trivial ?_
        refine zr_getf 120 rfl rfl rfl rfl rfl ?_
        refine zr_iload 122 rfl rfl rfl ?_
        refine zr_iconst 123 (x := 3) rfl rfl (by decide) ?_
        refine zr_imul 124 rfl rfl ?_
        refine zr_iconst 125 (x := 2) rfl rfl (by decide) ?_
        refine zr_iadd 126 rfl rfl ?_
        refine zr_aload_n 127 rfl rfl rfl trivial ?_
        refine zr_getf 130 rfl rfl rfl (zc_pe (zP zc23 (by omega))) rfl ?_
        rw [zn32]
        refine zr_iast 131 rfl rfl rfl (nI_clamp (by omega)) (vp_in_nI (by omega) (by omega)) (zW_set rfl) ?_
        refine zr_iinc 134 (c0 := 1) (L2 := [_, _, _, _, _, _]) rfl rfl rfl (by first | exact trivial | exact rfl) (by decide) rfl ?_
        refine zr_goto 63 rfl (by decide) ?_
        rw [nI_1]
        have e3 : ξ2 (23 + 5 + i) 3 = (K.lv i (q + 1) K.T).1 := by
          rw [zCs.lv_snoc]
          exact (x2.hp i hi 3 (by decide)).trans zws_3
        refine zs_forget (L' := [_, _, _, _, _, none]) (zsub_s (zsub_s (zsub_s (zsub_s (zsub_s (zsub_n zsub_0)))))) ?_
        refine ih _ (by omega) i mm (q + 1) _ rfl hi hm2 ?_ ?_ (fun k hk => ?_) (fun k hk => ?_) (fun a a1 a2 a3 => ?_) (by omega)
        · rw [zCs.lv_snoc]
          exact x2.fr hm6 (fun a a1 a2 => by rw [zun (by omega), zun (by omega)])
        · rw [zun (by decide), zun (by decide), f2 0 (by omega), zun (by decide)]
          exact hR
        · rw [zun (by decide), zun (by decide), f2 0 (by omega), zun (by decide)]
          exact f0 k hk
        · rw [zu_eq]
          by_cases k2 : k = q * 3 + 2
          · rw [if_pos ⟨rfl, k2⟩, k2, zrowF_2, zun (by omega)]
            exact e3
          rw [if_neg (fun z => k2 z.2), zu_eq]
          by_cases k1 : k = q * 3 + 1
          · rw [if_pos ⟨rfl, k1⟩, k1, zrowF_1]
          rw [if_neg (fun z => k1 z.2), f2 36 (by omega), zu_eq]
          by_cases k0 : k = q * 3
          · rw [if_pos ⟨rfl, k0⟩, k0, zrowF_0]
          rw [if_neg (fun z => k0 z.2)]
          exact fr k (by omega)
        · rw [zun a2, zun a2, f2 a (by omega), zun a2]
          exact f1 a a1 a2 a3
  refine zr_aload_n 1 rfl rfl rfl trivial ?_
  refine zr_iload_n 2 rfl rfl rfl ?_
  refine zr_callv 5 (As := [_]) (u2 := (0, 0)) rfl rfl rfl rfl rfl rfl rfl (Nat.le_of_ble_eq_true rfl) (Nat.le_of_ble_eq_true rfl) (Nat.le_of_ble_eq_true rfl) rfl (c_isPerson _) rfl (fun v2 w2 h2z => ?_)
  obtain ⟨rfl, rfl⟩ := h2z
  refine zr_if_eq 19 8 rfl rfl (by decide) (fun c5z => ?_) (fun c5z => ?_)
  · replace c5z := zb_0.mp c5z
    refine zr_iconst 20 (x := (-1)) rfl rfl (by decide) ?_
    refine zr_iret rfl rfl ?_
    refine ⟨fun _ => ⟨rfl, rfl⟩, fun i mm e1 e2 e3 e4 e5 => ?_⟩
    subst e1
    exact absurd ⟨nI_pos' (by omega), by rw [h.hm]; exact nI_lt e2 (by omega)⟩ c5z
  · replace c5z := zb_n0.mp c5z
    refine zr_iload_n 9 rfl rfl rfl ?_
    refine zr_iconst 10 (x := 1) rfl rfl (by decide) ?_
    refine zr_icmp_lt 19 13 rfl rfl (by decide) (fun c10z => ?_) (fun c10z => ?_)
    · refine zr_iconst 20 (x := (-1)) rfl rfl (by decide) ?_
      refine zr_iret rfl rfl ?_
      refine ⟨fun _ => ⟨rfl, rfl⟩, fun i mm e1 e2 e3 e4 e5 => ?_⟩
      subst e3
      exact absurd c10z (Int32.not_lt.mpr ((nI_leI (a := 1) (by decide) (by omega)).mpr e4))
    · refine zr_iload_n 14 rfl rfl rfl ?_
      refine zr_bipush 16 (x := 20) rfl rfl (by decide) ?_
      refine zr_icmp_le 21 19 rfl rfl (by decide) (fun c16z => ?_) (fun c16z => ?_)
      · obtain ⟨i, hi, rfl⟩ := zperI h.hm (by omega) c5z
        obtain ⟨mm, hmm, rfl⟩ := zbetI (k := 20) rfl (by decide) (Int32.le_trans (by decide) (Int32.not_lt.mp c10z)) c16z
        have hm1 : 1 ≤ mm := (nI_leI (a := 1) (by decide) (by omega)).mp (Int32.not_lt.mp c10z)
        refine Zw_mono (Q := fun r w => ∃ ξ2, w = zWof n ξ2 ρ ∧ r = some (.int (nI (min mm (60 - K.T)))) ∧ ξ2 0 6 = nI (min mm (60 - K.T)) ∧ (∀ k, k ≠ 6 → ξ2 0 k = ξ 0 k) ∧ (∀ k, k < 3 * min mm (60 - K.T) → ξ2 36 k = K.rowF i k) ∧ ∀ a, a ≠ 0 → a ≠ 36 → (a < 23 ∨ 34 ≤ a) → ξ2 a = ξ a) ?_ (fun r w q => ⟨fun z => absurd ⟨⟨nI_pos' (by omega), nI_lt hi (by omega)⟩, Int32.not_lt.mp c10z, c16z⟩ z, fun i' mm' e1 e2 e3 e4 e5 => by
          obtain rfl : i = i' := (nI_eq (by omega) (by omega)).mp e1
          obtain rfl : mm = mm' := (nI_eq (by omega) (by omega)).mp e3
          exact q⟩)
        have hT0 := h.ht
        refine zr_aload_n 22 rfl rfl rfl trivial ?_
        refine zr_getf 25 rfl rfl rfl rfl rfl ?_
        refine zr_aload_n 26 rfl rfl rfl trivial ?_
        refine zr_getf 29 rfl rfl rfl rfl rfl ?_
        refine zr_callv 32 (As := [_]) (u2 := (0, 0)) rfl rfl rfl rfl rfl rfl rfl (Nat.le_of_ble_eq_true rfl) (Nat.le_of_ble_eq_true rfl) (Nat.le_of_ble_eq_true rfl) rfl (k_copy zc23 zc1 (by decide) h hK) rfl (fun v2 w2 h29z => ?_)
        obtain ⟨rfl, ξ1, rfl, x1, f1⟩ := h29z
        refine zr_aload_n 33 rfl rfl rfl trivial ?_
        refine zr_getf 36 rfl rfl rfl rfl rfl ?_
        refine zr_getf 39 rfl rfl rfl rfl rfl ?_
        refine zr_iload_n 40 rfl rfl rfl ?_
        refine zr_aald 41 rfl rfl rfl (by decide) (nI_clamp (by omega)) (vp_in_nI (by omega) (by omega)) (zrf_ps (by omega)) ?_
        refine zr_astore_n 42 (L2 := [_, _, _, _, _, _]) rfl rfl trivial (Nat.le_of_ble_eq_true rfl) (by first | exact trivial | exact rfl) rfl ?_
        have h1 : zXR ξ1 1 K := h.fr hm6 (fun a a1 a2 => f1 a (Or.inl (by omega)))
        refine zr_aload_n 43 rfl rfl rfl trivial ?_
        refine zr_iload_n 44 rfl rfl rfl ?_
        refine zr_bipush 46 (x := 60) rfl rfl (by decide) ?_
        refine zr_aload_n 47 rfl rfl rfl trivial ?_
        refine zr_getf 50 rfl rfl rfl rfl rfl ?_
        refine zr_getf 53 rfl rfl rfl rfl rfl ?_
        refine zr_isub 54 rfl rfl ?_
        refine zr_min 57 rfl rfl rfl (Nat.le_of_ble_eq_true rfl) rfl ?_
        rw [h1.ht, show (60 : Int32) = nI 60 from rfl, znsub ht60, zminN (by omega) (by omega)]
        refine zr_putf 60 rfl rfl rfl rfl (Nat.le_of_ble_eq_true rfl) rfl trivial (fun h => by cases h) (zW_set (k := 6) rfl) ?_
        refine zr_iconst 61 (x := 0) rfl rfl (by decide) ?_
        refine zr_istore 63 (L2 := [_, _, _, _, _, _]) rfl rfl (Nat.le_of_ble_eq_true rfl) (by first | exact trivial | exact rfl) rfl ?_
        refine key _ i mm 0 _ rfl hi hmm ?_ (zu_same _ _ _ _) (fun k hk => ?_) (fun k hk => by omega) (fun a a1 a2 a3 => ?_) (by omega)
        · exact (x1.self i).fr hm6 (fun a a1 a2 => zun (by omega))
        · rw [zu_ne (Or.inr hk), f1 0 (by omega)]
        · rw [zun a1]
          exact f1 a (by omega)
      · refine zr_iconst 20 (x := (-1)) rfl rfl (by decide) ?_
        refine zr_iret rfl rfl ?_
        refine ⟨fun _ => ⟨rfl, rfl⟩, fun i mm e1 e2 e3 e4 e5 => ?_⟩
        subst e3
        exact absurd ((nI_leI (b := 20) (by omega) (by decide)).mpr e5) c16z
set_option maxRecDepth 20000 in
set_option maxHeartbeats 1000000 in
theorem c_isRow {S : Nat × (Nat → Int32)} {d n : Nat} {ξ : Nat → Nat → Int32} {ρ : zRho} {q : Nat} (hq : q < 20) (a b c : Int32) : Zc S (d + 1) jX5_isRow [.ref 0, .int (nI q), .int a, .int b, .int c] (zWof n ξ ρ) (fun r w => r = some (.int (zb (ξ 36 (q * 3) = a ∧ ξ 36 (q * 3 + 1) = b ∧ ξ 36 (q * 3 + 2) = c))) ∧ w = zWof n ξ ρ) := by
  refine Zc_in (q := (5, 0, 3, 4, 6, 0, 0, zk_X5_isRow)) rfl (Nat.le_of_ble_eq_true rfl) (L := [_, _, _, _, _, _]) rfl ?_
  refine zr_iload_n 1 rfl rfl rfl ?_
  refine zr_iconst 2 (x := 3) rfl rfl (by decide) ?_
  refine zr_imul 3 rfl rfl ?_
  rw [zn3]
  refine zr_istore 5 (L2 := [_, _, _, _, _, _]) rfl rfl (Nat.le_of_ble_eq_true rfl) (by first | exact trivial | exact rfl) rfl ?_
  refine zr_aload_n 6 rfl rfl rfl trivial ?_
  refine zr_getf 9 rfl rfl rfl rfl rfl ?_
  refine zr_iload 11 rfl rfl rfl ?_
  refine zr_iald 12 rfl rfl rfl (nI_clamp (by omega)) (vp_in_nI (by omega) (by omega)) ?_
  refine zr_iload_n 13 rfl rfl rfl ?_
  refine zr_icmp_ne 47 16 rfl rfl (by decide) (fun c13z => ?_) (fun c13z => ?_)
  · refine zr_iconst 48 (x := 0) rfl rfl (by decide) ?_
    refine zr_zret rfl rfl (Or.inl rfl) ?_
    refine ⟨?_, rfl⟩
    first | (simp [zb, *]; done) | grind [zb]
  · refine zr_aload_n 17 rfl rfl rfl trivial ?_
    refine zr_getf 20 rfl rfl rfl rfl rfl ?_
    refine zr_iload 22 rfl rfl rfl ?_
    refine zr_iconst 23 (x := 1) rfl rfl (by decide) ?_
    refine zr_iadd 24 rfl rfl ?_
    rw [nI_1]
    refine zr_iald 25 rfl rfl rfl (nI_clamp (by omega)) (vp_in_nI (by omega) (by omega)) ?_
    refine zr_iload_n 26 rfl rfl rfl ?_
    refine zr_icmp_ne 47 29 rfl rfl (by decide) (fun c26z => ?_) (fun c26z => ?_)
    · refine zr_iconst 48 (x := 0) rfl rfl (by decide) ?_
      refine zr_zret rfl rfl (Or.inl rfl) ?_
      refine ⟨?_, rfl⟩
      first | (simp [zb, *]; done) | grind [zb]
    · refine zr_aload_n 30 rfl rfl rfl trivial ?_
      refine zr_getf 33 rfl rfl rfl rfl rfl ?_
      refine zr_iload 35 rfl rfl rfl ?_
      refine zr_iconst 36 (x := 2) rfl rfl (by decide) ?_
      refine zr_iadd 37 rfl rfl ?_
      rw [show nI (q * 3) + 2 = nI (q * 3 + 2) from nI_add _ 2]
      refine zr_iald 38 rfl rfl rfl (nI_clamp (by omega)) (vp_in_nI (by omega) (by omega)) ?_
      refine zr_iload 40 rfl rfl rfl ?_
      refine zr_icmp_ne 47 43 rfl rfl (by decide) (fun c40z => ?_) (fun c40z => ?_)
      · refine zr_iconst 48 (x := 0) rfl rfl (by decide) ?_
        refine zr_zret rfl rfl (Or.inl rfl) ?_
        refine ⟨?_, rfl⟩
        first | (simp [zb, *]; done) | grind [zb]
      · refine zr_iconst 44 (x := 1) rfl rfl (by decide) ?_
        refine zr_goto 48 rfl (by decide) ?_
        refine zr_zret rfl rfl (Or.inr rfl) ?_
        refine ⟨?_, rfl⟩
        first | (simp [zb, *]; done) | grind [zb]
set_option maxRecDepth 20000 in
set_option maxHeartbeats 1000000 in
theorem c_judge {S : Nat × (Nat → Int32)} {d n : Nat} {ξ : Nat → Nat → Int32} {ρ : zRho} {K : zCs} (h : zXR ξ 1 K) (hK : zOK K) {R : Nat} (hR : ξ 0 6 = nI R) (hR20 : R ≤ 20) (x : Int32) : Zc S (d + 5) jX5_judge [.ref 0, .int x] (zWof n ξ ρ) (fun r w => ∃ ξ2, w = zWof n ξ2 ρ ∧ r = some (.int (zper K x (fun i => zjdgF K i (ξ 36) R 0))) ∧ zfrA 23 ξ ξ2) := by
  have hd3 := hK.d3
  have hm6 := hK.m6
  have ht60 := hK.t60
  refine Zc_in (q := (5, 0, 1, 1, 6, 0, 0, zk_X5_judge)) rfl (Nat.le_of_ble_eq_true rfl) (L := [_, _, _, _, _, _]) rfl ?_
  have key : ∀ (k : Nat) (i : Nat) (q : Nat) (ξ1 : Nat → Nat → Int32), 20 - q = k → i < K.M → zXR ξ1 23 (K.ws i (K.lv i q K.T)) → zfrA 23 ξ ξ1 → q ≤ R → zper K x (fun i => zjdgF K i (ξ 36) R 0) = zjdgF K i (ξ 36) (R - q) q →  Zw S (Zc S (d + 4)) 5 false 1 zk_X5_judge (fun r w => ∃ ξ2, w = zWof n ξ2 ρ ∧ r = some (.int (zper K x (fun i => zjdgF K i (ξ 36) R 0))) ∧ zfrA 23 ξ ξ2) (33, [some (.ref 0), some (.int (nI i)), some (.ref (23 + 5 + i)), some (.int (nI q)), none, none], [], (0, 0), zWof n ξ1 ρ) := by
    intro k
    induction k using Nat.strongRecOn with
    | ind k ih =>
      intro i q ξ1 hk hi x1 f1 hq ee
      have h1 : zXR ξ1 1 K := h.fr hm6 (fun a a1 a2 => f1 a (Or.inl (by omega)))
      have hR1 : ξ1 0 6 = nI R := by rw [f1 0 (by omega)]; exact hR
      refine zr_iload_n 34 rfl rfl rfl ?_
      refine zr_aload_n 35 rfl rfl rfl trivial ?_
      refine zr_getf 38 rfl rfl rfl rfl rfl ?_
      refine zr_icmp_ge 101 41 rfl rfl (by decide) (fun c38z => ?_) (fun c38z => ?_)
      · rw [hR1, nI_leI (by omega) (by omega)] at c38z
        refine zr_iconst 102 (x := 0) rfl rfl (by decide) ?_
        refine zr_iret rfl rfl ?_
        exact ⟨ξ1, rfl, by rw [ee, show R - q = 0 by omega]; rfl, f1⟩
      · rw [hR1, nI_leI (by omega) (by omega)] at c38z
        rw [show R - q = R - (q + 1) + 1 by omega, zjdgF] at ee
        refine zr_aload_n 42 rfl rfl rfl trivial ?_
        refine zr_getf 45 rfl rfl rfl rfl rfl ?_
        refine zr_getf 48 rfl rfl rfl rfl rfl ?_
        refine zr_iload_n 49 rfl rfl rfl ?_
        refine zr_iadd 50 rfl rfl ?_
        rw [h1.ht, nI_add]
        refine zr_istore 52 (L2 := [_, _, _, _, _, _]) rfl rfl (Nat.le_of_ble_eq_true rfl) (by first | exact trivial | exact rfl) rfl ?_
        refine zr_iload 54 rfl rfl rfl ?_
        refine zr_bipush 56 (x := 60) rfl rfl (by decide) ?_
        refine zr_icmp_lt 63 59 rfl rfl (by decide) (fun c56z => ?_) (fun c56z => ?_)
        · rw [show (60 : Int32) = nI 60 from rfl, nI_ltI (by omega) (by omega)] at c56z
          refine zr_aload_n 64 rfl rfl rfl trivial ?_
          refine zr_getf 67 rfl rfl rfl rfl rfl ?_
          refine zr_aload_n 68 rfl rfl rfl trivial ?_
          refine zr_iload 70 rfl rfl rfl ?_
          refine zr_callv 73 (As := [_, _]) (u2 := (0, 0)) rfl rfl rfl rfl rfl rfl rfl (Nat.le_of_ble_eq_true rfl) (Nat.le_of_ble_eq_true rfl) (Nat.le_of_ble_eq_true rfl) rfl (k_liveDay zc23 x1 hK hi (by omega)) rfl (fun v2 w2 h70z => ?_)
          obtain ⟨rfl, ξ2, rfl, x2, f2⟩ := h70z
          have e3 : ξ2 (23 + 5 + i) 3 = (K.lv i (q + 1) K.T).1 := by
            rw [zCs.lv_snoc]
            exact (x2.hp i hi 3 (by decide)).trans zws_3
          refine zr_istore 75 (L2 := [_, _, _, _, _, _]) rfl rfl (Nat.le_of_ble_eq_true rfl) (by first | exact trivial | exact rfl) rfl ?_
          refine zr_aload_n 76 rfl rfl rfl trivial ?_
          refine zr_iload_n 77 rfl rfl rfl ?_
          refine zr_iload 79 rfl rfl rfl ?_
          refine zr_iload 81 rfl rfl rfl ?_
          refine zr_aload_n 82 rfl rfl rfl trivial ?_
          refine zr_getf 85 rfl rfl rfl (zc_pe (zP zc23 (by omega))) rfl ?_
          refine zr_callv 88 (As := [_, _, _, _]) (u2 := (0, 0)) rfl rfl rfl rfl rfl rfl rfl (Nat.le_of_ble_eq_true rfl) (Nat.le_of_ble_eq_true rfl) (Nat.le_of_ble_eq_true rfl) rfl (c_isRow (by omega) _ _ _) rfl (fun v2 w2 h85z => ?_)
          obtain ⟨rfl, rfl⟩ := h85z
          refine zr_if_ne 95 91 rfl rfl (by decide) (fun c88z => ?_) (fun c88z => ?_)
          · replace c88z := zb_n0.mp c88z
            rw [e3, f2 36 (by omega), f1 36 (by omega), ← zrowF_0 K i q, ← zrowF_1 K i q, ← zrowF_2 K i q] at c88z
            refine zr_iinc 98 (c0 := 1) (L2 := [_, _, _, _, _, _]) rfl rfl rfl (by first | exact trivial | exact rfl) (by decide) rfl ?_
            refine zr_goto 33 rfl (by decide) ?_
            rw [nI_1]
            refine zs_forget (L' := [_, _, _, _, none, none]) (zsub_s (zsub_s (zsub_s (zsub_s (zsub_n (zsub_n zsub_0)))))) ?_
            refine ih _ (by omega) i (q + 1) ξ2 rfl hi ?_ (fun a ha => by rw [f2 a ha, f1 a ha]) (by omega) ?_
            · rw [zCs.lv_snoc]
              exact x2
            · rw [ee, if_neg (by rintro (z | z); · omega
                                 · exact z c88z)]
          · replace c88z := zb_0.mp c88z
            rw [e3, f2 36 (by omega), f1 36 (by omega), ← zrowF_0 K i q, ← zrowF_1 K i q, ← zrowF_2 K i q] at c88z
            refine zr_iload_n 92 rfl rfl rfl ?_
            refine zr_iconst 93 (x := 1) rfl rfl (by decide) ?_
            refine zr_iadd 94 rfl rfl ?_
            refine zr_iret rfl rfl ?_
            exact ⟨ξ2, rfl, by rw [ee, if_pos (Or.inr c88z), nI_1], fun a ha => by rw [f2 a ha, f1 a ha]⟩
        · rw [show (60 : Int32) = nI 60 from rfl, nI_ltI (by omega) (by omega)] at c56z
          refine zr_iload_n 60 rfl rfl rfl ?_
          refine zr_iconst 61 (x := 1) rfl rfl (by decide) ?_
          refine zr_iadd 62 rfl rfl ?_
          refine zr_iret rfl rfl ?_
          exact ⟨ξ1, rfl, by rw [ee, if_pos (Or.inl (by omega)), nI_1], f1⟩
  refine zr_aload_n 1 rfl rfl rfl trivial ?_
  refine zr_iload_n 2 rfl rfl rfl ?_
  refine zr_callv 5 (As := [_]) (u2 := (0, 0)) rfl rfl rfl rfl rfl rfl rfl (Nat.le_of_ble_eq_true rfl) (Nat.le_of_ble_eq_true rfl) (Nat.le_of_ble_eq_true rfl) rfl (c_isPerson _) rfl (fun v2 w2 h2z => ?_)
  obtain ⟨rfl, rfl⟩ := h2z
  refine zr_if_ne 10 8 rfl rfl (by decide) (fun c5z => ?_) (fun c5z => ?_)
  · replace c5z := zb_n0.mp c5z
    obtain ⟨i, hi, rfl⟩ := zperI h.hm (by omega) c5z
    refine zr_aload_n 11 rfl rfl rfl trivial ?_
    refine zr_getf 14 rfl rfl rfl rfl rfl ?_
    refine zr_aload_n 15 rfl rfl rfl trivial ?_
    refine zr_getf 18 rfl rfl rfl rfl rfl ?_
    refine zr_callv 21 (As := [_]) (u2 := (0, 0)) rfl rfl rfl rfl rfl rfl rfl (Nat.le_of_ble_eq_true rfl) (Nat.le_of_ble_eq_true rfl) (Nat.le_of_ble_eq_true rfl) rfl (k_copy zc23 zc1 (by decide) h hK) rfl (fun v2 w2 h18z => ?_)
    obtain ⟨rfl, ξ1, rfl, x1, f1⟩ := h18z
    refine zr_aload_n 22 rfl rfl rfl trivial ?_
    refine zr_getf 25 rfl rfl rfl rfl rfl ?_
    refine zr_getf 28 rfl rfl rfl rfl rfl ?_
    refine zr_iload_n 29 rfl rfl rfl ?_
    refine zr_aald 30 rfl rfl rfl (by decide) (nI_clamp (by omega)) (vp_in_nI (by omega) (by omega)) (zrf_ps (by omega)) ?_
    refine zr_astore_n 31 (L2 := [_, _, _, _, _, _]) rfl rfl trivial (Nat.le_of_ble_eq_true rfl) (by first | exact trivial | exact rfl) rfl ?_
    refine zr_iconst 32 (x := 0) rfl rfl (by decide) ?_
    refine zr_istore_n 33 (L2 := [_, _, _, _, _, _]) rfl rfl (Nat.le_of_ble_eq_true rfl) (by first | exact trivial | exact rfl) rfl ?_
    exact key _ i 0 ξ1 rfl hi (x1.self i) f1 (by omega) (zper_in hm6 hi _)
  · replace c5z := zb_0.mp c5z
    refine zr_iconst 9 (x := (-1)) rfl rfl (by decide) ?_
    refine zr_iret rfl rfl ?_
    refine ⟨ξ, rfl, ?_, fun _ _ => rfl⟩
    rw [show zper K x (fun i => zjdgF K i (ξ 36) R 0) = _ from zper_out h.hm _ c5z]
