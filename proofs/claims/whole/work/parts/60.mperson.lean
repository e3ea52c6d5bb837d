theorem zsp_sp (K : zCs) (i k : Nat) (v w : Int32) : (K.sp i k v).sp i k w = K.sp i k w := by
  have e : (fun j => if j = i then upd (if i = i then upd (K.p i) k v else K.p i) k w else (if j = i then upd (K.p i) k v else K.p j)) = fun j => if j = i then upd (K.p i) k w else K.p j := by
    funext j
    by_cases q : j = i
    · rw [if_pos q, if_pos rfl, if_pos q]
      funext k2
      unfold upd
      by_cases z : k2 = k
      · rw [if_pos z, if_pos z]
      · rw [if_neg z, if_neg z, if_neg z]
    · rw [if_neg q, if_neg q, if_neg q]
  show (K.D, K.M, K.T, K.z, K.law, K.dd, K.dp, fun j => if j = i then upd (if i = i then upd (K.p i) k v else K.p i) k w else (if j = i then upd (K.p i) k v else K.p j)) = (K.D, K.M, K.T, K.z, K.law, K.dd, K.dp, fun j => if j = i then upd (K.p i) k w else K.p j)
  rw [e]
theorem zsp_at (K : zCs) (i k : Nat) (v : Int32) : (K.sp i k v).p i k = v := by
  show (if i = i then upd (K.p i) k v else K.p i) k = v
  rw [if_pos rfl]
  exact if_pos rfl
theorem zillb_sp (tb : Nat → Int32) (K : zCs) (i : Nat) (v : Int32) (t : zTk) : zillb tb (K.sp i 4 v) i t = K.sp i 4 (v ||| (1 : Int32) <<< (znum tb t &&& 31)) := by
  unfold zillb
  rw [zsp_sp, zsp_at]
theorem zaddP_0 (K : zCs) (kd a wk : Int32) : K.addP kd a wk = (K.addP kd a wk).sp K.M 4 0 := by
  have e : (fun j => if j = K.M then upd ((K.addP kd a wk).p K.M) 4 0 else (K.addP kd a wk).p j) = (K.addP kd a wk).p := by
    funext j
    by_cases q : j = K.M
    · rw [if_pos q, q]
      funext k
      unfold upd
      by_cases z : k = 4
      · rw [if_pos z, z]
        show (0 : Int32) = (if K.M = K.M then znewp kd a wk else K.p K.M) 4
        rw [if_pos rfl]
        rfl
      · rw [if_neg z]
    · rw [if_neg q]
  show _ = ((K.addP kd a wk).D, (K.addP kd a wk).M, (K.addP kd a wk).T, (K.addP kd a wk).z, (K.addP kd a wk).law, (K.addP kd a wk).dd, (K.addP kd a wk).dp, fun j => if j = K.M then upd ((K.addP kd a wk).p K.M) 4 0 else (K.addP kd a wk).p j)
  rw [e]
theorem zMF.addP {ξ : Nat → Nat → Int32} {K : zCs} (h : zMF ξ K) (h6 : K.M < 6) (kd a wk il : Int32) {x : Int32} (hx : x = nI (K.M + 1)) : zMF (zu (zu (zu (zu (zu ξ 53 K.M kd) 54 K.M a) 55 K.M wk) 56 K.M il) 42 20 x) ((K.addP kd a wk).sp K.M 4 il) := by
  obtain ⟨a1, a2, a3, a4, a5, a6, a7, a8, a9⟩ := h
  refine ⟨(zu_same _ _ _ _).trans hx, a2, a3, a4, a5, fun i hi => ?_, fun i hi => ?_, a8, by show K.M + 1 ≤ 6; omega⟩
  · have hi2 : i < K.M + 1 := hi
    show zu ξ 53 K.M kd 53 i = (if i = K.M then upd (if K.M = K.M then znewp kd a wk else K.p K.M) 4 il else (if i = K.M then znewp kd a wk else K.p i)) 0 ∧ zu ξ 54 K.M a 54 i = (if i = K.M then upd (if K.M = K.M then znewp kd a wk else K.p K.M) 4 il else (if i = K.M then znewp kd a wk else K.p i)) 1 ∧ zu ξ 55 K.M wk 55 i = (if i = K.M then upd (if K.M = K.M then znewp kd a wk else K.p K.M) 4 il else (if i = K.M then znewp kd a wk else K.p i)) 2 ∧ zu ξ 56 K.M il 56 i = (if i = K.M then upd (if K.M = K.M then znewp kd a wk else K.p K.M) 4 il else (if i = K.M then znewp kd a wk else K.p i)) 4
    by_cases e : i = K.M
    · rw [if_pos e, if_pos rfl, e, zu_same, zu_same, zu_same, zu_same]
      exact ⟨rfl, rfl, rfl, rfl⟩
    · rw [if_neg e, if_neg e, zu_ne (Or.inr e), zu_ne (Or.inr e), zu_ne (Or.inr e), zu_ne (Or.inr e)]
      exact a6 i (by omega)
  · have hi2 : i < K.M + 1 := hi
    show (if i = K.M then upd (if K.M = K.M then znewp kd a wk else K.p K.M) 4 il else (if i = K.M then znewp kd a wk else K.p i)) 3 = 0 ∧ (if i = K.M then upd (if K.M = K.M then znewp kd a wk else K.p K.M) 4 il else (if i = K.M then znewp kd a wk else K.p i)) 5 = -9 ∧ (if i = K.M then upd (if K.M = K.M then znewp kd a wk else K.p K.M) 4 il else (if i = K.M then znewp kd a wk else K.p i)) 6 = 0
    by_cases e : i = K.M
    · rw [if_pos e, if_pos rfl]
      exact ⟨rfl, rfl, rfl⟩
    · rw [if_neg e, if_neg e]
      exact a7 i (by omega)
theorem zper_cases (tb : Nat → Int32) (L : Nat) (K : zCs) (kd : Int32) (t : zTk) : (∃ f, zqN tb L 1 99 (zqW tb L zS6 (zqN tb L 0 9 (if K.M < 6 then .inr (zNx tb L t) else .inl t.1))) = .inl f ∧ zrperF tb L K kd t = .inl f) ∨ (K.M < 6 ∧ znok tb (zNx tb L t) 0 9 ∧ zisN tb (zNx tb L (zNx tb L t)) zS6 ∧ znok tb (zNx tb L (zNx tb L (zNx tb L t))) 1 99 ∧ zqN tb L 1 99 (zqW tb L zS6 (zqN tb L 0 9 (if K.M < 6 then .inr (zNx tb L t) else .inl t.1))) = .inr (zNx tb L (zNx tb L (zNx tb L (zNx tb L t)))) ∧ zrperF tb L K kd t = zrper4 tb L (K.addP kd (znum tb (zNx tb L t)) (znum tb (zNx tb L (zNx tb L (zNx tb L t))))) K.M (zNx tb L (zNx tb L (zNx tb L (zNx tb L t))))) := by
  unfold zrperF zrper1 zrper2 zrper3
  by_cases h1 : K.M < 6
  · rw [if_pos h1, if_pos h1]
    by_cases h2 : znok tb (zNx tb L t) 0 9
    · rw [if_pos h2, show zqN tb L 0 9 (.inr (zNx tb L t)) = _ from if_pos h2]
      by_cases h3 : zisN tb (zNx tb L (zNx tb L t)) zS6
      · rw [if_pos h3, show zqW tb L zS6 (.inr (zNx tb L (zNx tb L t))) = _ from if_pos h3]
        by_cases h4 : znok tb (zNx tb L (zNx tb L (zNx tb L t))) 1 99
        · rw [if_pos h4, show zqN tb L 1 99 (.inr (zNx tb L (zNx tb L (zNx tb L t)))) = _ from if_pos h4]
          exact Or.inr ⟨h1, h2, h3, h4, rfl, rfl⟩
        · rw [if_neg h4, show zqN tb L 1 99 (.inr (zNx tb L (zNx tb L (zNx tb L t)))) = _ from if_neg h4]
          exact Or.inl ⟨_, rfl, rfl⟩
      · rw [if_neg h3, show zqW tb L zS6 (.inr (zNx tb L (zNx tb L t))) = _ from if_neg h3]
        exact Or.inl ⟨_, rfl, rfl⟩
    · rw [if_neg h2, show zqN tb L 0 9 (.inr (zNx tb L t)) = _ from if_neg h2]
      exact Or.inl ⟨_, rfl, rfl⟩
  · rw [if_neg h1, if_neg h1]
    exact Or.inl ⟨_, rfl, rfl⟩
set_option maxRecDepth 20000 in
set_option maxHeartbeats 1000000 in
theorem c_MwantPerson {S : Nat × (Nat → Int32)} {d n : Nat} {ξ : Nat → Nat → Int32} {ρ : zRho} {wd : Int64} {tb tu : Nat → Int32} {L : Nat} {t : zTk} (h : zMP ξ wd tb tu L t) {K : zCs} (hF : zMF ξ K) (kd : Int32) : Zc S (d + 5) jX6_wantPerson [.ref 42, .int kd] (zWof n ξ (zρw ρ wd)) (fun r w => r = none ∧ ∃ ξ2 wd2, w = zWof n ξ2 (zρw ρ wd2) ∧ zMRs ξ2 wd2 tb tu L (zrperF tb L K kd t) ∧ zfrC ξ ξ2) := by
  have hM6 := hF.2.2.2.2.2.2.2.2
  refine Zc_in (q := (6, 0, 0, 1, 7, 0, 0, zk_X6_wantPerson)) rfl (Nat.le_of_ble_eq_true rfl) (L := [_, _, _, _, _, _, _]) rfl ?_
  have k143 : ∀ (ξ1 : Nat → Nat → Int32) (wd1 : Int64) (s : Nat ⊕ zTk) (a : Int32) (wk : Int32) (il : Int32) (mo : Int32), zMQ ξ1 wd1 tb tu L s → zfrQ ξ ξ1 → (∀ f, s = .inl f → zrperF tb L K kd t = .inl f) → (∀ tq, s = .inr tq → K.M < 6 ∧ zrperF tb L K kd t = zendF tb L ((K.addP kd a wk).sp K.M 4 il) tq) →  Zw S (Zc S (d + 4)) 6 false 0 zk_X6_wantPerson (fun r w => r = none ∧ ∃ ξ2 wd2, w = zWof n ξ2 (zρw ρ wd2) ∧ zMRs ξ2 wd2 tb tu L (zrperF tb L K kd t) ∧ zfrC ξ ξ2) (143, [some (.ref 42), some (.int kd), some (.int a), some (.int wk), some (.int il), some (.int mo), none], [], (0, 0), zWof n ξ1 (zρw ρ wd1)) := by
    intro ξ1 wd1 s a wk il mo m1 f1 hi hr
    refine zr_aload_n 144 rfl rfl rfl trivial ?_
    refine zr_callv 147 (As := []) (u2 := (0, 0)) rfl rfl rfl rfl rfl rfl rfl (Nat.le_of_ble_eq_true rfl) (Nat.le_of_ble_eq_true rfl) (Nat.le_of_ble_eq_true rfl) rfl (c_MwantEnd (ρ := ρ) m1) rfl (fun v2 w2 h144z => ?_)
    obtain ⟨rfl, ξ2, wd2, rfl, m2, f2⟩ := h144z
    have fq := f1.tr f2
    have g2 := hF.fr fq
    have e20 : ξ2 42 20 = nI K.M := g2.1
    rcases s with f | tq
    · refine zr_aload_n 148 rfl rfl rfl trivial ?_
      refine zr_getf 151 rfl rfl rfl rfl rfl ?_
      refine zr_if_eq 205 154 rfl rfl (by decide) (fun c151z => ?_) (fun c151z => ?_)
      · refine zr_ret rfl rfl ?_
        refine ⟨rfl, ξ2, wd2, rfl, ?_, fq.c⟩
        rw [hi f rfl]
        exact m2
      · exact absurd m2.1 c151z
    · obtain ⟨h6, ez⟩ := hr tq rfl
      by_cases hz : zisS tb tq 59
      · rw [show zqE tb L (.inr tq) = _ from if_pos hz] at m2
        refine zr_aload_n 148 rfl rfl rfl trivial ?_
        refine zr_getf 151 rfl rfl rfl rfl rfl ?_
        refine zr_if_eq 205 154 rfl rfl (by decide) (fun c151z => ?_) (fun c151z => ?_)
        · exact absurd (m2.1.symm.trans c151z) (by decide)
        · refine zr_aload_n 155 rfl rfl rfl trivial ?_
          refine zr_getf 158 rfl rfl rfl rfl rfl ?_
          refine zr_aload_n 159 rfl rfl rfl trivial ?_
          refine zr_getf 162 rfl rfl rfl rfl rfl ?_
          rw [e20]
          refine zr_iload_n 163 rfl rfl rfl ?_
          refine zr_iast 164 rfl rfl rfl (nI_clamp (by omega)) (vp_in_nI (by omega) (by omega)) (zW_set rfl) ?_
          refine zr_aload_n 165 rfl rfl rfl trivial ?_
          refine zr_getf 168 rfl rfl rfl rfl rfl ?_
          refine zr_aload_n 169 rfl rfl rfl trivial ?_
          refine zr_getf 172 rfl rfl rfl rfl rfl ?_
          rw [show zu ξ2 53 K.M kd 42 20 = nI K.M from e20]
          refine zr_iload_n 173 rfl rfl rfl ?_
          refine zr_iast 174 rfl rfl rfl (nI_clamp (by omega)) (vp_in_nI (by omega) (by omega)) (zW_set rfl) ?_
          refine zr_aload_n 175 rfl rfl rfl trivial ?_
          refine zr_getf 178 rfl rfl rfl rfl rfl ?_
          refine zr_aload_n 179 rfl rfl rfl trivial ?_
          refine zr_getf 182 rfl rfl rfl rfl rfl ?_
          rw [show zu (zu ξ2 53 K.M kd) 54 K.M a 42 20 = nI K.M from e20]
          refine zr_iload_n 183 rfl rfl rfl ?_
          refine zr_iast 184 rfl rfl rfl (nI_clamp (by omega)) (vp_in_nI (by omega) (by omega)) (zW_set rfl) ?_
          refine zr_aload_n 185 rfl rfl rfl trivial ?_
          refine zr_getf 188 rfl rfl rfl rfl rfl ?_
          refine zr_aload_n 189 rfl rfl rfl trivial ?_
          refine zr_getf 192 rfl rfl rfl rfl rfl ?_
          rw [show zu (zu (zu ξ2 53 K.M kd) 54 K.M a) 55 K.M wk 42 20 = nI K.M from e20]
          refine zr_iload 194 rfl rfl rfl ?_
          refine zr_iast 195 rfl rfl rfl (nI_clamp (by omega)) (vp_in_nI (by omega) (by omega)) (zW_set rfl) ?_
          refine zr_aload_n 196 rfl rfl rfl trivial ?_
          refine zr_dup 197 rfl rfl rfl ?_
          refine zr_getf 200 rfl rfl rfl rfl rfl ?_
          refine zr_iconst 201 (x := 1) rfl rfl (by decide) ?_
          refine zr_iadd 202 rfl rfl ?_
          refine zr_putf 205 rfl rfl rfl rfl (Nat.le_of_ble_eq_true rfl) rfl trivial (fun h => by cases h) (zW_set (k := 20) rfl) ?_
          refine zr_ret rfl rfl ?_
          refine ⟨rfl, _, wd2, rfl, ?_, ((((fq.c.u 53 _ _ (by omega)).u 54 _ _ (by omega)).u 55 _ _ (by omega)).u 56 _ _ (by omega)).u 42 20 _ (by omega)⟩
          rw [ez, show zendF tb L ((K.addP kd a wk).sp K.M 4 il) tq = _ from if_pos hz]
          exact ⟨m2, g2.addP h6 kd a wk il (show ξ2 42 20 + 1 = _ by rw [e20, nI_1])⟩
      · rw [show zqE tb L (.inr tq) = _ from if_neg hz] at m2
        refine zr_aload_n 148 rfl rfl rfl trivial ?_
        refine zr_getf 151 rfl rfl rfl rfl rfl ?_
        refine zr_if_eq 205 154 rfl rfl (by decide) (fun c151z => ?_) (fun c151z => ?_)
        · refine zr_ret rfl rfl ?_
          refine ⟨rfl, ξ2, wd2, rfl, ?_, fq.c⟩
          rw [ez, show zendF tb L ((K.addP kd a wk).sp K.M 4 il) tq = _ from if_neg hz]
          exact m2
        · exact absurd m2.1 c151z
  have k79 : ∀ (k : Nat) (tq : zTk) (ξ1 : Nat → Nat → Int32) (wd1 : Int64) (a : Int32) (wk : Int32) (il : Int32) (nf : Nat), nf = k → ξ1 42 19 = 1 → zMP ξ1 wd1 tb tu L tq → zfrQ ξ ξ1 → K.M < 6 → tq.1 < L → L - tq.1 < nf → zrperF tb L K kd t = zillL tb L K.M nf ((K.addP kd a wk).sp K.M 4 il) tq →  Zw S (Zc S (d + 4)) 6 false 0 zk_X6_wantPerson (fun r w => r = none ∧ ∃ ξ2 wd2, w = zWof n ξ2 (zρw ρ wd2) ∧ zMRs ξ2 wd2 tb tu L (zrperF tb L K kd t) ∧ zfrC ξ ξ2) (79, [some (.ref 42), some (.int kd), some (.int a), some (.int wk), some (.int il), some (.int 1), none], [], (0, 0), zWof n ξ1 (zρw ρ wd1)) := by
    intro k
    induction k using Nat.strongRecOn with
    | ind k ih =>
      intro tq ξ1 wd1 a wk il nf hk h19 m1 f1 h6 hlt hfu ez
      refine zr_iload 81 rfl rfl rfl ?_
      refine zr_if_eq 143 84 rfl rfl (by decide) (fun c81z => ?_) (fun c81z => ?_)
      · exact absurd (show (1 : Int32) = 0 from c81z) (by decide)
      · obtain ⟨n2, rfl⟩ : ∃ z, nf = z + 1 := ⟨nf - 1, by omega⟩
        rw [zillL] at ez
        refine zr_aload_n 85 rfl rfl rfl trivial ?_
        refine zr_callv 88 (As := []) (u2 := (0, 0)) rfl rfl rfl rfl rfl rfl rfl (Nat.le_of_ble_eq_true rfl) (Nat.le_of_ble_eq_true rfl) (Nat.le_of_ble_eq_true rfl) rfl (c_Madvance (ξ := ξ1) (ρ := zρw ρ wd1) m1.1 m1.2.1 m1.2.2.2.1 m1.2.2.2.2.2.1 m1.2.2.2.2.2.2.1.2.1 m1.2.2.2.2.2.2.2.1) rfl (fun v2 w2 h85z => ?_)
        obtain ⟨rfl, ξ2, wd2, rfl, mp2, fp2⟩ := h85z
        have mq2 := zMP.adv fp2 mp2 h19
        refine zr_aload_n 89 rfl rfl rfl trivial ?_
        refine zr_iconst 90 (x := 0) rfl rfl (by decide) ?_
        refine zr_bipush 92 (x := 29) rfl rfl (by decide) ?_
        refine zr_callv 95 (As := [_, _]) (u2 := (0, 0)) rfl rfl rfl rfl rfl rfl rfl (Nat.le_of_ble_eq_true rfl) (Nat.le_of_ble_eq_true rfl) (Nat.le_of_ble_eq_true rfl) rfl (c_MwantNumber (ρ := ρ) mq2 0 29 (by decide)) rfl (fun v2 w2 h92z => ?_)
        obtain ⟨vd, rfl, w3, ξ3, wd3, rfl, m3, f3⟩ := h92z
        have fq := (f1.tr fp2.q).tr f3
        by_cases hz : znok tb (zNx tb L tq) 0 29
        · rw [if_pos hz] at ez
          have ev := w3 (zNx tb L tq) rfl hz
          subst ev
          rw [show zqN tb L 0 29 (.inr (zNx tb L tq)) = _ from if_pos hz] at m3
          obtain ⟨g3, mp3⟩ := m3
          rw [zillb_sp] at ez
          refine zr_istore 97 (L2 := [_, _, _, _, _, _, _]) rfl rfl (Nat.le_of_ble_eq_true rfl) (by first | exact trivial | exact rfl) rfl ?_
          refine zr_iload 99 rfl rfl rfl ?_
          refine zr_aload_n 100 rfl rfl rfl trivial ?_
          refine zr_getf 103 rfl rfl rfl rfl rfl ?_
          refine zr_if_eq 113 106 rfl rfl (by decide) (fun c103z => ?_) (fun c103z => ?_)
          · exact absurd (g3.symm.trans c103z) (by decide)
          · refine zr_iconst 107 (x := 1) rfl rfl (by decide) ?_
            refine zr_iload 109 rfl rfl rfl ?_
            refine zr_ishl 110 rfl rfl ?_
            refine zr_goto 114 rfl (by decide) ?_
            refine zr_ior 115 rfl rfl ?_
            refine zr_istore 117 (L2 := [_, _, _, _, _, _, _]) rfl rfl (Nat.le_of_ble_eq_true rfl) (by first | exact trivial | exact rfl) rfl ?_
            refine zr_aload_n 118 rfl rfl rfl trivial ?_
            refine zr_getf 121 rfl rfl rfl rfl rfl ?_
            refine zr_if_eq 137 124 rfl rfl (by decide) (fun c121z => ?_) (fun c121z => ?_)
            · exact absurd (g3.symm.trans c121z) (by decide)
            · refine zr_aload_n 125 rfl rfl rfl trivial ?_
              refine zr_bipush 127 (x := 44) rfl rfl (by decide) ?_
              refine zr_callv 130 (As := [_]) (u2 := (0, 0)) rfl rfl rfl rfl rfl rfl rfl (Nat.le_of_ble_eq_true rfl) (Nat.le_of_ble_eq_true rfl) (Nat.le_of_ble_eq_true rfl) rfl (c_MisMark (ρ := ρ) mp3 (by decide)) rfl (fun v2 w2 h127z => ?_)
              obtain ⟨rfl, rfl⟩ := h127z
              refine zr_if_eq 137 133 rfl rfl (by decide) (fun c130z => ?_) (fun c130z => ?_)
              · replace c130z := zb_0.mp c130z
                rw [if_neg c130z] at ez
                refine zr_iconst 138 (x := 0) rfl rfl (by decide) ?_
                refine zr_istore 140 (L2 := [_, _, _, _, _, _, _]) rfl rfl (Nat.le_of_ble_eq_true rfl) (by first | exact trivial | exact rfl) rfl ?_
                refine zr_goto 79 rfl (by decide) ?_
                refine zs_forget (L' := [_, _, _, _, _, _, none]) (zsub_s (zsub_s (zsub_s (zsub_s (zsub_s (zsub_s (zsub_n zsub_0))))))) ?_
                refine zr_iload 81 rfl rfl rfl ?_
                refine zr_if_eq 143 84 rfl rfl (by decide) (fun c81z => ?_) (fun c81z => ?_)
                · exact k143 ξ3 wd3 (.inr (zNx tb L (zNx tb L tq))) a wk _ 0 ⟨g3, mp3⟩ fq (fun f q => by cases q) (fun t2 q => by cases q; exact ⟨h6, ez⟩)
                · exact absurd rfl c81z
              · replace c130z := zb_n0.mp c130z
                rw [if_pos c130z] at ez
                refine zr_iconst 134 (x := 1) rfl rfl (by decide) ?_
                refine zr_goto 138 rfl (by decide) ?_
                refine zr_istore 140 (L2 := [_, _, _, _, _, _, _]) rfl rfl (Nat.le_of_ble_eq_true rfl) (by first | exact trivial | exact rfl) rfl ?_
                refine zr_goto 79 rfl (by decide) ?_
                refine zs_forget (L' := [_, _, _, _, _, _, none]) (zsub_s (zsub_s (zsub_s (zsub_s (zsub_s (zsub_s (zsub_n zsub_0))))))) ?_
                have st : tq.2.1 ≤ (zNx tb L tq).1 := zNx_st m1.2.2.2.2.2.2.1
                have st2 : (zNx tb L tq).2.1 ≤ (zNx tb L (zNx tb L tq)).1 := zNx_st mp2.2.2.2.2.2.2.1
                have lt0 : tq.1 ≤ tq.2.1 := m1.2.2.2.2.2.2.1.1
                have lt1 : (zNx tb L tq).1 < (zNx tb L tq).2.1 := (mp2.2.2.2.2.2.2.1.lt (show ¬ (zNx tb L tq).2.2 = 0 by rw [hz.1]; decide)).1
                have lt2 : (zNx tb L (zNx tb L tq)).1 < L := (mp3.2.2.2.2.2.2.1.lt (show ¬ (zNx tb L (zNx tb L tq)).2.2 = 0 by rw [c130z.1]; decide)).2
                exact ih n2 (by omega) (zNx tb L (zNx tb L tq)) ξ3 wd3 a wk _ n2 rfl g3 mp3 fq h6 lt2 (by omega) ez
        · rw [if_neg hz] at ez
          rw [show zqN tb L 0 29 (.inr (zNx tb L tq)) = _ from if_neg hz] at m3
          refine zr_istore 97 (L2 := [_, _, _, _, _, _, _]) rfl rfl (Nat.le_of_ble_eq_true rfl) (by first | exact trivial | exact rfl) rfl ?_
          refine zr_iload 99 rfl rfl rfl ?_
          refine zr_aload_n 100 rfl rfl rfl trivial ?_
          refine zr_getf 103 rfl rfl rfl rfl rfl ?_
          refine zr_if_eq 113 106 rfl rfl (by decide) (fun c103z => ?_) (fun c103z => ?_)
          · refine zr_iconst 114 (x := 0) rfl rfl (by decide) ?_
            refine zr_ior 115 rfl rfl ?_
            refine zr_istore 117 (L2 := [_, _, _, _, _, _, _]) rfl rfl (Nat.le_of_ble_eq_true rfl) (by first | exact trivial | exact rfl) rfl ?_
            refine zr_aload_n 118 rfl rfl rfl trivial ?_
            refine zr_getf 121 rfl rfl rfl rfl rfl ?_
            refine zr_if_eq 137 124 rfl rfl (by decide) (fun c121z => ?_) (fun c121z => ?_)
            · refine zr_iconst 138 (x := 0) rfl rfl (by decide) ?_
              refine zr_istore 140 (L2 := [_, _, _, _, _, _, _]) rfl rfl (Nat.le_of_ble_eq_true rfl) (by first | exact trivial | exact rfl) rfl ?_
              refine zr_goto 79 rfl (by decide) ?_
              refine zs_forget (L' := [_, _, _, _, _, _, none]) (zsub_s (zsub_s (zsub_s (zsub_s (zsub_s (zsub_s (zsub_n zsub_0))))))) ?_
              refine zr_iload 81 rfl rfl rfl ?_
              refine zr_if_eq 143 84 rfl rfl (by decide) (fun c81z => ?_) (fun c81z => ?_)
              · exact k143 ξ3 wd3 (.inl (zNx tb L tq).1) a wk _ 0 m3 fq (fun f q => by cases q; exact ez) (fun t2 q => by cases q)
              · exact absurd rfl c81z
            · exact absurd m3.1 c121z
          · exact absurd m3.1 c103z
  have k29 : ∀ (ξ1 : Nat → Nat → Int32) (wd1 : Int64), zMQ ξ1 wd1 tb tu L (if K.M < 6 then .inr (zNx tb L t) else .inl t.1) → zfrQ ξ ξ1 →  Zw S (Zc S (d + 4)) 6 false 0 zk_X6_wantPerson (fun r w => r = none ∧ ∃ ξ2 wd2, w = zWof n ξ2 (zρw ρ wd2) ∧ zMRs ξ2 wd2 tb tu L (zrperF tb L K kd t) ∧ zfrC ξ ξ2) (29, [some (.ref 42), some (.int kd), none, none, none, none, none], [], (0, 0), zWof n ξ1 (zρw ρ wd1)) := by
    intro ξ1 wd1 m1 f1
    refine zr_aload_n 30 rfl rfl rfl trivial ?_
    refine zr_iconst 31 (x := 0) rfl rfl (by decide) ?_
    refine zr_bipush 33 (x := 9) rfl rfl (by decide) ?_
    refine zr_callv 36 (As := [_, _]) (u2 := (0, 0)) rfl rfl rfl rfl rfl rfl rfl (Nat.le_of_ble_eq_true rfl) (Nat.le_of_ble_eq_true rfl) (Nat.le_of_ble_eq_true rfl) rfl (c_MwantNumber (ρ := ρ) m1 0 9 (by decide)) rfl (fun v2 w2 h33z => ?_)
    obtain ⟨a, rfl, w1, ξ2, wd2, rfl, m2, f2⟩ := h33z
    refine zr_istore_n 37 (L2 := [_, _, _, _, _, _, _]) rfl rfl (Nat.le_of_ble_eq_true rfl) (by first | exact trivial | exact rfl) rfl ?_
    refine zr_aload_n 38 rfl rfl rfl trivial ?_
    refine zr_ldc2_w 41 rfl rfl rfl ?_
    refine zr_callv 44 (As := [_]) (u2 := (0, 0)) rfl rfl rfl rfl rfl rfl rfl (Nat.le_of_ble_eq_true rfl) (Nat.le_of_ble_eq_true rfl) (Nat.le_of_ble_eq_true rfl) rfl (c_MwantWord (ρ := ρ) m2 zww_6) rfl (fun v2 w2 h41z => ?_)
    obtain ⟨rfl, ξ3, wd3, rfl, m3, f3⟩ := h41z
    refine zr_aload_n 45 rfl rfl rfl trivial ?_
    refine zr_iconst 46 (x := 1) rfl rfl (by decide) ?_
    refine zr_bipush 48 (x := 99) rfl rfl (by decide) ?_
    refine zr_callv 51 (As := [_, _]) (u2 := (0, 0)) rfl rfl rfl rfl rfl rfl rfl (Nat.le_of_ble_eq_true rfl) (Nat.le_of_ble_eq_true rfl) (Nat.le_of_ble_eq_true rfl) rfl (c_MwantNumber (ρ := ρ) m3 1 99 (by decide)) rfl (fun v2 w2 h48z => ?_)
    obtain ⟨wk, rfl, w2, ξ4, wd4, rfl, m4, f4⟩ := h48z
    have fq : zfrQ ξ ξ4 := ((f1.tr f2).tr f3).tr f4
    refine zr_istore_n 52 (L2 := [_, _, _, _, _, _, _]) rfl rfl (Nat.le_of_ble_eq_true rfl) (by first | exact trivial | exact rfl) rfl ?_
    refine zr_iconst 53 (x := 0) rfl rfl (by decide) ?_
    refine zr_istore 55 (L2 := [_, _, _, _, _, _, _]) rfl rfl (Nat.le_of_ble_eq_true rfl) (by first | exact trivial | exact rfl) rfl ?_
    rcases zper_cases tb L K kd t with ⟨f, q1, q2⟩ | ⟨h1, h2, h3, h4, q1, q2⟩
    · rw [q1] at m4
      refine zr_aload_n 56 rfl rfl rfl trivial ?_
      refine zr_getf 59 rfl rfl rfl rfl rfl ?_
      refine zr_if_eq 76 62 rfl rfl (by decide) (fun c59z => ?_) (fun c59z => ?_)
      · refine zr_iconst 77 (x := 0) rfl rfl (by decide) ?_
        refine zr_istore 79 (L2 := [_, _, _, _, _, _, _]) rfl rfl (Nat.le_of_ble_eq_true rfl) (by first | exact trivial | exact rfl) rfl ?_
        refine zr_iload 81 rfl rfl rfl ?_
        refine zr_if_eq 143 84 rfl rfl (by decide) (fun c81z => ?_) (fun c81z => ?_)
        · exact k143 ξ4 wd4 (.inl f) a wk 0 0 m4 fq (fun f2 q => by cases q; exact q2) (fun t2 q => by cases q)
        · exact absurd rfl c81z
      · exact absurd m4.1 c59z
    · have e1 := w1 (zNx tb L t) (if_pos h1) h2
      have e2 := w2 (zNx tb L (zNx tb L (zNx tb L t))) (by rw [if_pos h1, show zqN tb L 0 9 (.inr (zNx tb L t)) = _ from if_pos h2, show zqW tb L zS6 (.inr (zNx tb L (zNx tb L t))) = _ from if_pos h3]) h4
      rw [q1] at m4
      rw [← e1, ← e2, zaddP_0] at q2
      obtain ⟨g4, mp4⟩ := m4
      refine zr_aload_n 56 rfl rfl rfl trivial ?_
      refine zr_getf 59 rfl rfl rfl rfl rfl ?_
      refine zr_if_eq 76 62 rfl rfl (by decide) (fun c59z => ?_) (fun c59z => ?_)
      · exact absurd (g4.symm.trans c59z) (by decide)
      · refine zr_aload_n 63 rfl rfl rfl trivial ?_
        refine zr_ldc2_w 66 rfl rfl rfl ?_
        refine zr_callv 69 (As := [_]) (u2 := (0, 0)) rfl rfl rfl rfl rfl rfl rfl (Nat.le_of_ble_eq_true rfl) (Nat.le_of_ble_eq_true rfl) (Nat.le_of_ble_eq_true rfl) rfl (c_MisWord (ρ := ρ) mp4 zww_7) rfl (fun v2 w2 h66z => ?_)
        obtain ⟨rfl, rfl⟩ := h66z
        refine zr_if_eq 76 72 rfl rfl (by decide) (fun c69z => ?_) (fun c69z => ?_)
        · replace c69z := zb_0.mp c69z
          refine zr_iconst 77 (x := 0) rfl rfl (by decide) ?_
          refine zr_istore 79 (L2 := [_, _, _, _, _, _, _]) rfl rfl (Nat.le_of_ble_eq_true rfl) (by first | exact trivial | exact rfl) rfl ?_
          refine zr_iload 81 rfl rfl rfl ?_
          refine zr_if_eq 143 84 rfl rfl (by decide) (fun c81z => ?_) (fun c81z => ?_)
          · exact k143 ξ4 wd4 (.inr (zNx tb L (zNx tb L (zNx tb L (zNx tb L t))))) a wk 0 0 ⟨g4, mp4⟩ fq (fun f q => by cases q) (fun t2 q => by cases q; exact ⟨h1, q2.trans (if_neg c69z)⟩)
          · exact absurd rfl c81z
        · replace c69z := zb_n0.mp c69z
          refine zr_iconst 73 (x := 1) rfl rfl (by decide) ?_
          refine zr_goto 77 rfl (by decide) ?_
          refine zr_istore 79 (L2 := [_, _, _, _, _, _, _]) rfl rfl (Nat.le_of_ble_eq_true rfl) (by first | exact trivial | exact rfl) rfl ?_
          have lt4 := mp4.2.2.2.2.2.2.1.lt (show ¬ (zNx tb L (zNx tb L (zNx tb L (zNx tb L t)))).2.2 = 0 by rw [c69z.1]; decide)
          have hL := mp4.2.2.2.2.2.1
          exact k79 _ (zNx tb L (zNx tb L (zNx tb L (zNx tb L t)))) ξ4 wd4 a wk 0 201 rfl g4 mp4 fq h1 lt4.2 (by omega) (q2.trans (if_pos c69z))
  refine zr_aload_n 1 rfl rfl rfl trivial ?_
  refine zr_aload_n 2 rfl rfl rfl trivial ?_
  refine zr_getf 5 rfl rfl rfl rfl rfl ?_
  refine zr_bipush 7 (x := 6) rfl rfl (by decide) ?_
  refine zr_icmp_ge 14 10 rfl rfl (by decide) (fun c7z => ?_) (fun c7z => ?_)
  · rw [hF.1, show (6 : Int32) = nI 6 from rfl, nI_leI (by decide) (by omega)] at c7z
    refine zr_iconst 15 (x := 0) rfl rfl (by decide) ?_
    refine zr_putf 18 rfl rfl rfl rfl (Nat.le_of_ble_eq_true rfl) rfl (by first | exact Or.inl rfl | exact Or.inr rfl | assumption) (fun h => by cases h) (zW_set (k := 19) (v := 0) rfl) ?_
    refine zr_aload_n 19 rfl rfl rfl trivial ?_
    refine zr_getf 22 rfl rfl rfl rfl rfl ?_
    refine zr_if_eq 29 25 rfl rfl (by decide) (fun c22z => ?_) (fun c22z => ?_)
    · refine k29 _ wd ?_ ((zfrQ.rf ξ).u19 0)
      rw [if_neg (by omega)]
      exact ⟨zu_same _ _ _ _, h.2.2.1⟩
    · exact absurd rfl c22z
  · rw [hF.1, show (6 : Int32) = nI 6 from rfl, nI_leI (by decide) (by omega)] at c7z
    refine zr_iconst 11 (x := 1) rfl rfl (by decide) ?_
    refine zr_goto 15 rfl (by decide) ?_
    refine zr_putf 18 rfl rfl rfl rfl (Nat.le_of_ble_eq_true rfl) rfl (by first | exact Or.inl rfl | exact Or.inr rfl | assumption) (fun h => by cases h) (zW_set (k := 19) (v := 1) rfl) ?_
    refine zr_aload_n 19 rfl rfl rfl trivial ?_
    refine zr_getf 22 rfl rfl rfl rfl rfl ?_
    refine zr_if_eq 29 25 rfl rfl (by decide) (fun c22z => ?_) (fun c22z => ?_)
    · exact absurd (show (1 : Int32) = 0 from c22z) (by decide)
    · refine zr_aload_n 26 rfl rfl rfl trivial ?_
      refine zr_callv 29 (As := []) (u2 := (0, 0)) rfl rfl rfl rfl rfl rfl rfl (Nat.le_of_ble_eq_true rfl) (Nat.le_of_ble_eq_true rfl) (Nat.le_of_ble_eq_true rfl) rfl (c_Madvance (ξ := zu ξ 42 19 1) (ρ := zρw ρ wd) h.1 h.2.1 h.2.2.2.1 h.2.2.2.2.2.1 h.2.2.2.2.2.2.1.2.1 h.2.2.2.2.2.2.2.1) rfl (fun v2 w2 h26z => ?_)
      obtain ⟨rfl, ξ2, wd2, rfl, mp2, fp2⟩ := h26z
      refine k29 ξ2 wd2 ?_ (((zfrQ.rf ξ).u19 1).tr fp2.q)
      rw [if_pos (by omega)]
      exact zMP.adv fp2 mp2 (zu_same _ _ _ _)
set_option maxRecDepth 20000 in
set_option maxHeartbeats 1000000 in
theorem c_MwantClause {S : Nat × (Nat → Int32)} {d n : Nat} {ξ : Nat → Nat → Int32} {ρ : zRho} {wd : Int64} {tb tu : Nat → Int32} {L : Nat} {t : zTk} (h : zMP ξ wd tb tu L t) {K : zCs} (hF : zMF ξ K) (hP : zPk K) : Zc S (d + 6) jX6_wantClause [.ref 42] (zWof n ξ (zρw ρ wd)) (fun r w => r = none ∧ ∃ ξ2 wd2, w = zWof n ξ2 (zρw ρ wd2) ∧ zMRs ξ2 wd2 tb tu L (zstmt tb L K t) ∧ zfrC ξ ξ2) := by
  refine Zc_in (q := (6, 0, 0, 0, 1, 0, 0, zk_X6_wantClause)) rfl (Nat.le_of_ble_eq_true rfl) (L := [_]) rfl ?_
  refine zr_aload_n 1 rfl rfl rfl trivial ?_
  refine zr_callv 4 (As := []) (u2 := (0, 0)) rfl rfl rfl rfl rfl rfl rfl (Nat.le_of_ble_eq_true rfl) (Nat.le_of_ble_eq_true rfl) (Nat.le_of_ble_eq_true rfl) rfl (c_MkindHere h) rfl (fun v2 w2 h1z => ?_)
  obtain ⟨rfl, rfl⟩ := h1z
  refine zr_if_lt 18 7 rfl rfl (by decide) (fun c4z => ?_) (fun c4z => ?_)
  · have k0 : ¬ 0 ≤ zkindF tb t := Int32.not_le.mpr c4z
    refine zr_aload_n 19 rfl rfl rfl trivial ?_
    refine zr_callv 22 (As := []) (u2 := (0, 0)) rfl rfl rfl rfl rfl rfl rfl (Nat.le_of_ble_eq_true rfl) (Nat.le_of_ble_eq_true rfl) (Nat.le_of_ble_eq_true rfl) rfl (c_MlawHere h) rfl (fun v2 w2 h19z => ?_)
    obtain ⟨rfl, rfl⟩ := h19z
    refine zr_if_lt 36 25 rfl rfl (by decide) (fun c22z => ?_) (fun c22z => ?_)
    · have hn : ¬ zisN tb t zS8 ∧ ¬ zisN tb t zS9 ∧ ¬ zisN tb t zS10 := by
        unfold zlawH at c22z
        by_cases q8 : zisN tb t zS8
        · rw [if_pos q8] at c22z
          exact absurd c22z (by decide)
        by_cases q9 : zisN tb t zS9
        · rw [if_neg q8, if_pos q9] at c22z
          exact absurd c22z (by decide)
        by_cases q10 : zisN tb t zS10
        · rw [if_neg q8, if_neg q9, if_pos q10] at c22z
          exact absurd c22z (by decide)
        exact ⟨q8, q9, q10⟩
      refine zr_aload_n 37 rfl rfl rfl trivial ?_
      refine zr_ldc2_w 40 rfl rfl rfl ?_
      refine zr_callv 43 (As := [_]) (u2 := (0, 0)) rfl rfl rfl rfl rfl rfl rfl (Nat.le_of_ble_eq_true rfl) (Nat.le_of_ble_eq_true rfl) (Nat.le_of_ble_eq_true rfl) rfl (c_MisWord h zww_11) rfl (fun v2 w2 h40z => ?_)
      obtain ⟨rfl, rfl⟩ := h40z
      refine zr_if_eq 53 46 rfl rfl (by decide) (fun c43z => ?_) (fun c43z => ?_)
      · replace c43z := zb_0.mp c43z
        refine zr_aload_n 54 rfl rfl rfl trivial ?_
        refine zr_iconst 55 (x := 0) rfl rfl (by decide) ?_
        refine zr_putf 58 rfl rfl rfl rfl (Nat.le_of_ble_eq_true rfl) rfl (by first | exact Or.inl rfl | exact Or.inr rfl | assumption) (fun h => by cases h) (zW_set (k := 19) (v := 0) rfl) ?_
        refine zr_ret rfl rfl ?_
        refine ⟨rfl, _, wd, rfl, ?_, ((zfrQ.rf ξ).u19 0).c⟩
        rw [show zstmt tb L K t = _ from (if_neg k0).trans ((if_neg hn.1).trans ((if_neg hn.2.1).trans ((if_neg hn.2.2).trans (if_neg c43z))))]
        exact ⟨zu_same _ _ _ _, h.2.2.1⟩
      · replace c43z := zb_n0.mp c43z
        refine zr_aload_n 47 rfl rfl rfl trivial ?_
        refine zr_callv 50 (As := []) (u2 := (0, 0)) rfl rfl rfl rfl rfl rfl rfl (Nat.le_of_ble_eq_true rfl) (Nat.le_of_ble_eq_true rfl) (Nat.le_of_ble_eq_true rfl) rfl (c_MwantDate h hF hP) rfl (fun v2 w2 h47z => ?_)
        obtain ⟨rfl, ξ2, wd2, rfl, m2, f2⟩ := h47z
        refine zr_goto 58 rfl (by decide) ?_
        refine zr_ret rfl rfl ?_
        refine ⟨rfl, ξ2, wd2, rfl, ?_, f2⟩
        rw [show zstmt tb L K t = _ from (if_neg k0).trans ((if_neg hn.1).trans ((if_neg hn.2.1).trans ((if_neg hn.2.2).trans (if_pos c43z))))]
        exact m2
    · have hlaw : ∃ l, l < 3 ∧ zlawH tb t = nI l ∧ zstmt tb L K t = zrlawF tb L K l t := by
        have e0 : zstmt tb L K t = _ := if_neg k0
        unfold zlawH at c22z ⊢
        by_cases q8 : zisN tb t zS8
        · exact ⟨0, by decide, if_pos q8, e0.trans (if_pos q8)⟩
        by_cases q9 : zisN tb t zS9
        · exact ⟨1, by decide, (if_neg q8).trans (if_pos q9), e0.trans ((if_neg q8).trans (if_pos q9))⟩
        by_cases q10 : zisN tb t zS10
        · exact ⟨2, by decide, (if_neg q8).trans ((if_neg q9).trans (if_pos q10)), e0.trans ((if_neg q8).trans ((if_neg q9).trans (if_pos q10)))⟩
        rw [if_neg q8, if_neg q9, if_neg q10] at c22z
        exact absurd (show (-1 : Int32) < 0 by decide) c22z
      refine zr_aload_n 26 rfl rfl rfl trivial ?_
      refine zr_aload_n 27 rfl rfl rfl trivial ?_
      refine zr_callv 30 (As := []) (u2 := (0, 0)) rfl rfl rfl rfl rfl rfl rfl (Nat.le_of_ble_eq_true rfl) (Nat.le_of_ble_eq_true rfl) (Nat.le_of_ble_eq_true rfl) rfl (c_MlawHere h) rfl (fun v2 w2 h27z => ?_)
      obtain ⟨rfl, rfl⟩ := h27z
      obtain ⟨l, hl, el, ez⟩ := hlaw
      rw [el]
      refine zr_callv 33 (As := [_]) (u2 := (0, 0)) rfl rfl rfl rfl rfl rfl rfl (Nat.le_of_ble_eq_true rfl) (Nat.le_of_ble_eq_true rfl) (Nat.le_of_ble_eq_true rfl) rfl (c_MwantLaw h hF hl) rfl (fun v2 w2 h30z => ?_)
      obtain ⟨rfl, ξ2, wd2, rfl, m2, f2⟩ := h30z
      refine zr_goto 58 rfl (by decide) ?_
      refine zr_ret rfl rfl ?_
      refine ⟨rfl, ξ2, wd2, rfl, ?_, f2⟩
      rw [ez]
      exact m2
  · have k0 : 0 ≤ zkindF tb t := Int32.not_lt.mp c4z
    refine zr_aload_n 8 rfl rfl rfl trivial ?_
    refine zr_aload_n 9 rfl rfl rfl trivial ?_
    refine zr_callv 12 (As := []) (u2 := (0, 0)) rfl rfl rfl rfl rfl rfl rfl (Nat.le_of_ble_eq_true rfl) (Nat.le_of_ble_eq_true rfl) (Nat.le_of_ble_eq_true rfl) rfl (c_MkindHere h) rfl (fun v2 w2 h9z => ?_)
    obtain ⟨rfl, rfl⟩ := h9z
    refine zr_callv 15 (As := [_]) (u2 := (0, 0)) rfl rfl rfl rfl rfl rfl rfl (Nat.le_of_ble_eq_true rfl) (Nat.le_of_ble_eq_true rfl) (Nat.le_of_ble_eq_true rfl) rfl (c_MwantPerson h hF _) rfl (fun v2 w2 h12z => ?_)
    obtain ⟨rfl, ξ2, wd2, rfl, m2, f2⟩ := h12z
    refine zr_goto 58 rfl (by decide) ?_
    refine zr_ret rfl rfl ?_
    refine ⟨rfl, ξ2, wd2, rfl, ?_, f2⟩
    rw [show zstmt tb L K t = _ from if_pos k0]
    exact m2
