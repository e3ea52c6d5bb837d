theorem zmt_len : zmt.length = 221 := by decide +kernel
theorem zynm_of {j : Nat} {q : zMI} {y : zYI} (h1 : zat zmt j = some q) (h2 : zat zyt j = some y) : zynm j = some y.1 := by
  have h3 : j < 221 := by
    have := zat_lt h1
    rw [zmt_len] at this
    exact this
  unfold zynm
  rw [if_neg (by omega), if_neg (by omega), if_neg (by omega), if_neg (by omega), h2]
  rfl
section ZCALL
variable {p : Program} {l : Launch} {e : Env} {R : Room} {s : State} {m : MethodId} {args : Array Value} {below : List Frame} {meth : Method} {c : Code} {H : Heap} {locs : List Loc} {cells slots : Nat} {Q : State → Prop}
variable {base : Nat} {kd : Nat → Option Nat} {tc : Nat → ClassId} {D : va_G} {S : Nat × (Nat → Int32)} {cc : ByteArray} {nL : Nat} {own : String} {cn : Nat} {g : Bool} {n pc : Nat} {L : zL} {st : List Value} {u : Nat × Nat} {w : zW} {Y : zS} {ls : Array Slot}
theorem zmap_args (As : List Value) (v : Value) (r : List Value) : (As.reverse ++ v :: r).map (zV base kd) = (As.map (zV base kd)).reverse ++ zV base kd v :: r.map (zV base kd) := by simp
theorem zmap_args0 (As r : List Value) : (As.reverse ++ r).map (zV base kd) = (As.map (zV base kd)).reverse ++ r.map (zV base kd) := by simp
set_option maxHeartbeats 4000000 in
theorem zcall_ok {d : Nat} {C : zC} {P : zS → Prop} (cx : zCx p s m args meth c base kd tc D S R cc nL own cn g) (hdep : 9 + d ≤ R.frames ∧ 500 + 100 * d ≤ R.locals) (hC : ∀ (j : Nat) (q : zMI) (As : List Value) (w : zW) (Q0 : zQ), zat zmt j = some q → C j As w Q0 → ∃ y, zat zyt j = some y ∧ zMet l base kd tc D S d q y As w Q0)
    {i : Instr} (hd : decode cc pc = .ok (i, n)) (hcl : zCl C cn P i n pc L st u w) (hs : zSt base kd tc D s R nL H locs cells slots ls (pc, L, st, u, w)) (kk : ∀ Y, P Y → zKK p l e R s m args below meth c Q base kd tc D nL Y) :
    W p l e R s m args below meth c H locs cells slots Q (F0 m pc ls (st.map (zV base kd))) := by
  have cx0 := cx
  obtain ⟨hx, hb, hml, hown, hts, hK, hKon, hbs, hcn, hin, hfr, hlo⟩ := cx
  obtain ⟨j, q, As, r, Q0, a1, a2, a3, a4, a5, a6, a7, a8⟩ := hcl
  subst a6
  have hc5 : cells + u.1 ≤ R.cells := hs.2.2.2.2.1
  have hc6 : slots + u.2 ≤ R.slots := hs.2.2.2.2.2.1
  have fin : ∀ (a : Array Value) (st0 : List Value), va_Run p l e R s m args below meth c H locs cells slots q.2.2.2.2.2.1 q.2.2.2.2.2.2.1 (F0 m pc ls st0) (r.map (zV base kd)) (zQc base kd tc D S Q0 a) (zAA base) → W p l e R s m args below meth c H locs cells slots Q (F0 m pc ls st0) := by
    intro a st0 hr
    refine zcall_on hr hs.2.2.2.1 fun rv w' H1 locs1 hq z1 z2 z3 z4 => ?_
    have k1 := kk _ (a8 rv w' hq) H1 locs1 (cells + q.2.2.2.2.2.1) (slots + q.2.2.2.2.2.2.1) ls ⟨hs.1, z2, z1, z4, by show cells + q.2.2.2.2.2.1 + (u.1 - q.2.2.2.2.2.1) ≤ R.cells; omega, by show slots + q.2.2.2.2.2.2.1 + (u.2 - q.2.2.2.2.2.2.1) ≤ R.slots; omega, z3⟩
    dsimp only at k1
    rw [List.map_append, show rv.toList.map (zV base kd) = (rv.map (zV base kd)).toList by cases rv <;> rfl] at k1
    exact k1
  have hW8 : 2 * (F0 m pc ls (st.map (zV base kd))).monitorRoom + ((r.map (zV base kd)).map fun v => v.category).sum ≤ 8 := lv_room (by rw [zcat_map]; exact a3)
  have word : ∀ (idx : Nat) (y : zYI), zlk zmlT cn idx = some j → zat zyt j = some y → (Cond.methodLink own idx y.1).before args s = true ∨ va_Nw (.methodLinkNest own idx y.1 "LastDays") s := by
    intro idx y hl hy
    obtain ⟨own', yy, e1, e2, e3⟩ := zlk_of zl_all hl
    have e1' := zown hcn e1
    dsimp only at e2 e3
    rw [zynm_of a1 hy] at e2
    have e4 : y.1 = yy := Option.some.inj e2
    rw [e1', ← e4] at e3
    rcases e3 with e3 | ⟨e3, -⟩
    · exact Or.inl (hts _ (zin e3))
    · exact Or.inr (va_Nw.of rfl (hts _ (zin e3)))
  have good : ∀ y : zYI, Cond.code y.1 y.2.1 q.2.2.2.2.1 y.2.2 ∈ lw_tbl → GoodIn zTB [Cond.code y.1 y.2.1 q.2.2.2.2.1 y.2.2] := by
    intro y hy w0 hw0
    rw [List.mem_singleton.mp hw0]
    exact ⟨zin hy, Or.inl rfl⟩
  have room : q.2.2.2.2.1 ≤ 80 → (zrm d q).frames + 1 ≤ R.frames ∧ 8 + (q.2.2.2.2.1 + 11) + (zrm d q).locals ≤ R.locals := by
    intro hq
    constructor
    · show 8 + d + 1 ≤ R.frames
      omega
    · show 8 + (q.2.2.2.2.1 + 11) + (400 + 100 * d) ≤ R.locals
      omega
  have cf : CallFix p m c cc nL s args zTB own := ⟨hx, hb, hml, hown, hts⟩
  have hsz : (F0 m pc ls (st.map (zV base kd))).locals.size = nL := hs.1.1
  match i, a7 with
  | .invokevirtual idx, a7 =>
    obtain ⟨hl, hk0, v, hst, hv, hc⟩ := a7
    subst hst
    obtain ⟨y, y1, hM⟩ := hC j q _ w Q0 a1 hc
    obtain ⟨y', y1', hok, -⟩ := zMall_at zM_all a1
    have hyy : y' = y := Option.some.inj (y1'.symm.trans y1)
    subst hyy
    obtain ⟨mcode, mpl, mcls, mi0, mi1, mi2, mini, mnames, mret, mmax⟩ := hok
    have recv : ∃ b, zV base kd v = .ref b ∧ ∃ cell : Cell, H[b]? = some cell ∧ cell.vm.isStatics = false ∧ s.vm.findClass y'.1.cls = some cell.cls := by
      rcases hv with ⟨b, fs, rfl, hw⟩ | ⟨k, rfl, hk, hq10⟩
      · have hne : (.inr (q.1, fs) : va_E) ≠ .inr (99, []) := fun h => by
          injection h with h
          injection h with h h2
          rw [h] at mcls
          rw [show zat zcn 99 = none from rfl] at mcls
          cases mcls
        have he := zws_at (base := base) (kd := kd) (tc := tc) hs.2.2.2.2.2.2 hw hne
        obtain ⟨rr, hc7, -⟩ := hs.2.1 b _ he
        obtain ⟨-, -, -, g4, -⟩ := zcls (C := rr.1) (T := rr.2.1) (N := rr.2.2) hc7
        have : rr.1 = y'.1.cls := Option.some.inj (g4.symm.trans mcls)
        rw [← this]
        exact ⟨_, rfl, va_recv hK hs.2.1 hc7 he⟩
      · obtain ⟨adK, adV, b1, b2⟩ := hKon.2.2.1
        rw [hq10] at mcls
        rw [show y'.1.cls = "java/lang/String" from (Option.some.inj mcls).symm]
        exact ⟨_, zV_const (b1 k hk).1, vk_recv b2 hk hs.2.2.2.1⟩
    obtain ⟨b, hb1, hb2⟩ := recv
    rw [zmap_args, hb1] at hW8 hsz ⊢
    have hp : PreV s H y'.1.cls b (zPre base kd tc D S (v :: As) w) (As.map (zV base kd)) := ⟨zPre_blind _, hb2, fun U hU hW => ⟨by rw [List.map_cons, hb1], zB_at cx0 hs hU hW⟩⟩
    rcases word idx y' hl y1 with hlk | hlk
    · exact fin _ _ (va_runV cf hM ⟨callB_of q.2.2.2.1 hts (good y' mcode) rfl rfl rfl (hts _ (zin mini)) hlk mnames (room mmax), hts _ (zin (mi0 hk0).1), hts _ (zin (mi0 hk0).2)⟩ hp rfl (by rw [List.length_map]; exact a2) hsz rfl hW8 hd ⟨by omega, by omega⟩)
    · exact fin _ _ (va_runVN cf hM ⟨va_cnB q.2.2.2.1 hts (good y' mcode) rfl rfl rfl hlk (hts _ (zin mini)) mnames (room mmax), hts _ (zin (mi0 hk0).1), hts _ (zin (mi0 hk0).2)⟩ hp rfl (by rw [List.length_map]; exact a2) hsz rfl hW8 hd ⟨by omega, by omega⟩)
  | .invokespecial idx, a7 =>
    obtain ⟨hl, hk0, b, hst, hc⟩ := a7
    subst hst
    obtain ⟨y, y1, hM⟩ := hC j q _ w Q0 a1 hc
    obtain ⟨y', y1', hok, -⟩ := zMall_at zM_all a1
    have hyy : y' = y := Option.some.inj (y1'.symm.trans y1)
    subst hyy
    obtain ⟨mcode, mpl, mcls, mi0, mi1, mi2, mini, mnames, mret, mmax⟩ := hok
    obtain ⟨n1, n2, n3⟩ := mi1 hk0
    rw [zmap_args] at hW8 hsz ⊢
    have hp : PreS s H (zPre base kd tc D S (.ref b :: As) w) (.ref (base + b) :: As.map (zV base kd)) := ⟨zPre_blind _, fun U hU hW => ⟨rfl, zB_at cx0 hs hU hW⟩⟩
    unfold zMet at hM
    have gd := good y' mcode
    rw [n3] at hM gd
    rcases word idx y' hl y1 with hlk | hlk
    · exact fin _ _ (va_runI cf hM ⟨callB_of q.2.2.2.1 hts gd rfl rfl rfl (hts _ (zin mini)) hlk mnames (room mmax), n2, hts _ (zin n1)⟩ hp rfl (by rw [List.length_map]; exact a2) hsz rfl hW8 hd ⟨by omega, by omega⟩)
    · exact fin _ _ (va_runIN cf hM ⟨va_cnB q.2.2.2.1 hts gd rfl rfl rfl hlk (hts _ (zin mini)) mnames (room mmax), n2, hts _ (zin n1)⟩ hp rfl (by rw [List.length_map]; exact a2) hsz rfl hW8 hd ⟨by omega, by omega⟩)
  | .invokestatic idx, a7 =>
    obtain ⟨hl, hk0, hst, hc⟩ := a7
    subst hst
    obtain ⟨y, y1, hM⟩ := hC j q _ w Q0 a1 hc
    obtain ⟨y', y1', hok, -⟩ := zMall_at zM_all a1
    have hyy : y' = y := Option.some.inj (y1'.symm.trans y1)
    subst hyy
    obtain ⟨mcode, mpl, mcls, mi0, mi1, mi2, mini, mnames, mret, mmax⟩ := hok
    rw [zmap_args0] at hW8 hsz ⊢
    have hp : PreS s H (zPre base kd tc D S As w) (As.map (zV base kd)) := ⟨zPre_blind _, fun U hU hW => ⟨rfl, zB_at cx0 hs hU hW⟩⟩
    rcases word idx y' hl y1 with hlk | hlk
    · exact fin _ _ (va_runS cf hM ⟨callB_of q.2.2.2.1 hts (good y' mcode) rfl rfl rfl (hts _ (zin mini)) hlk mnames (room mmax), hts _ (zin (mi2 hk0))⟩ hp rfl (by rw [List.length_map]; exact a2) hsz rfl hW8 hd ⟨by omega, by omega⟩)
    · exact fin _ _ (va_runSN cf hM ⟨va_cnB q.2.2.2.1 hts (good y' mcode) rfl rfl rfl hlk (hts _ (zin mini)) mnames (room mmax), hts _ (zin (mi2 hk0)), trivial⟩ hp rfl (by rw [List.length_map]; exact a2) hsz rfl hW8 hd ⟨by omega, by omega⟩)
/-- a method's body, from any of its places -/
theorem zbody {d rt : Nat} {C : zC} {K : zK} {Q0 : zQ} (cx : zCx p s m args meth c base kd tc D S R cc nL own cn g) (hdep : 9 + d ≤ R.frames ∧ 500 + 100 * d ≤ R.locals) (hC : ∀ (j : Nat) (q : zMI) (As : List Value) (w : zW) (Q0 : zQ), zat zmt j = some q → C j As w Q0 → ∃ y, zat zyt j = some y ∧ zMet l base kd tc D S d q y As w Q0) (hD : zDok K cc)
    (hend : ∀ (pc : Nat) (L : zL) (st : List Value) (u : Nat × Nat) (w : zW) (i : Instr) (H : Heap) (locs : List Loc) (cells slots : Nat) (ls : Array Slot), zRt rt Q0 i st w → decode cc pc = .ok (i, 1) → zSt base kd tc D s R nL H locs cells slots ls (pc, L, st, u, w) → W p l e R s m args below meth c H locs cells slots Q (F0 m pc ls (st.map (zV base kd))))
    {X : zS} (hZ : Zw S C cn g rt K Q0 X) : zKK p l e R s m args below meth c Q base kd tc D nL X := by
  refine hZ (fun Y => zKK p l e R s m args below meth c Q base kd tc D nL Y) ?_
  intro Y hY
  obtain ⟨pc, L, st, u, w⟩ := Y
  intro H locs cells slots ls hs
  rcases hY with ⟨i, n, h1, h2⟩ | ⟨L', h1, h2⟩
  · have hde := hD _ (zas_mem h1)
    rcases h2 with ⟨Y', h3, h4⟩ | h3 | ⟨rfl, h3⟩
    · exact zR_ok cx hde.1 hde.2 h3 hs h4
    · exact zcall_ok cx hdep hC hde.1 h3 hs (fun Y hY => hY)
    · exact hend pc L st u w i H locs cells slots ls h3 hde.1 hs
  · exact h2 H locs cells slots ls ⟨hs.1.forget h1, hs.2⟩
end ZCALL
theorem zen_at {base : Nat} {kd : Nat → Option Nat} : ∀ (As : List Value) (k i : Nat) (v : Value), zat (zen As) i = some (some v) → (k + i, zV base kd v) ∈ lv_args k (As.map (zV base kd))
  | [], _, _, _, h => by simp [zen, zat] at h
  | a :: As, k, i, v, h => by
    unfold zen at h
    rw [List.map_cons]
    unfold lv_args
    rw [zV_cat]
    rcases lv_cat a with ha | ha
    · rw [ha] at h ⊢
      rw [if_neg (by decide)]
      match i, h with
      | 0, h =>
        cases h
        exact List.mem_cons_self
      | i + 1, h =>
        refine List.mem_cons_of_mem _ ?_
        rw [show k + (i + 1) = k + 1 + i by omega]
        exact zen_at As (k + 1) i v h
    · rw [ha] at h ⊢
      rw [if_pos rfl]
      match i, h with
      | 0, h =>
        cases h
        exact List.mem_cons_self
      | 1, h => cases h
      | i + 2, h =>
        refine List.mem_cons_of_mem _ ?_
        rw [show k + (i + 2) = k + 2 + i by omega]
        exact zen_at As (k + 2) i v h
theorem zen_len {base : Nat} {kd : Nat → Option Nat} : ∀ As : List Value, (lg_sl (As.map (zV base kd))).length = (zen As).length
  | [] => rfl
  | a :: As => by
    have ih := zen_len (base := base) (kd := kd) As
    unfold lg_sl at ih ⊢
    unfold zen
    rw [List.map_cons, List.flatMap_cons, List.length_append, ih, zV_cat]
    rcases lv_cat a with ha | ha
    · rw [ha, if_neg (by decide)]
      simp
      omega
    · rw [ha, if_pos rfl]
      simp
      omega
theorem zent_H {base : Nat} {kd : Nat → Option Nat} {maxL : Nat} {As : List Value} {ls : Array Slot} (h : (zen As).length ≤ maxL) (hl : lv_has ls maxL (lv_args 0 (As.map (zV base kd)))) : zH base kd ls maxL (zent maxL As) := by
  refine ⟨hl.1, hl.2.1, ?_, fun i v hi => ?_⟩
  · unfold zent
    rw [List.length_append, List.length_replicate]
    omega
  · unfold zent at hi
    rw [zat_get] at hi
    by_cases hlt : i < (zen As).length
    · rw [List.getElem?_append_left hlt, ← zat_get] at hi
      have h1 := zen_at (base := base) (kd := kd) As 0 i v hi
      rw [Nat.zero_add] at h1
      exact hl.2.2 _ h1
    · rw [List.getElem?_append_right (by omega)] at hi
      have := List.eq_of_mem_replicate (List.mem_of_getElem? hi)
      cases this
set_option maxHeartbeats 4000000 in
/-- every contract of the small machine is one of the machine -/
theorem zsound (l : Launch) (base : Nat) (kd : Nat → Option Nat) (tc : Nat → ClassId) (D : va_G) (S : Nat × (Nat → Int32)) : ∀ (d j : Nat) (q : zMI) (As : List Value) (w : zW) (Q0 : zQ), zat zmt j = some q → Zc S d j As w Q0 → ∃ y, zat zyt j = some y ∧ zMet l base kd tc D S d q y As w Q0 := by
  intro d
  induction d with
  | zero => intro j q As w Q0 _ h; exact False.elim h
  | succ d ih =>
    intro j q As w Q0 hj hZ
    obtain ⟨q', e0, hlen, hZ⟩ := hZ
    have eq : q' = q := Option.some.inj (e0.symm.trans hj)
    subst eq
    obtain ⟨y, y1, ⟨mcode, mpl, mcls, mi0, mi1, mi2, mini, mnames, mret, mmax⟩, hD⟩ := zMall_at zM_all hj
    refine ⟨y, y1, Met.ofW (cc := y.2.1) (maxL := q'.2.2.2.2.1) (ret := y.2.2) mpl rfl ?_⟩
    intro p e s m args below meth c s₁ B hml hv
    obtain ⟨rfl, hz, hP, ho, hK, hKon, hts0⟩ := hv
    have hx := B.exec
    have hb := B.bytes
    have hr := B.returns
    have hown : s.vm.findClass y.1.cls = some m.cls := findClass_of_methodNamed B.named
    have hlocks := B.notSynchronized
    have hts : ∀ w ∈ zTB, w.before (As.map (zV base kd)).toArray s = true := zTB_same rfl hts0
    have cx : zCx p s m (As.map (zV base kd)).toArray meth c base kd tc D S (headSpec [Cond.code y.1 y.2.1 q'.2.2.2.2.1 y.2.2] (zrm (d + 1) q')).room y.2.1 q'.2.2.2.2.1 y.1.cls q'.1 (q'.2.1 == 1) := by
      refine ⟨hx, hb, hml, hown, hts, hK, hKon, by omega, mcls, fun hg => ?_, ?_, ?_⟩
      · have hk1 : q'.2.1 = 1 := by simpa using hg
        rw [(name_of_methodNamed B.named B.method).1]
        exact (mi1 hk1).2.1
      · show 8 ≤ 8 + (d + 1)
        omega
      · show 400 ≤ 400 + 100 * (d + 1)
        omega
    have hl := lv_entry (As.map (zV base kd)) (n := q'.2.2.2.2.1) (by rw [zen_len]; exact hlen)
    rw [lg_entry_eq]
    generalize (lg_sl (As.map (zV base kd)) ++ List.replicate (q'.2.2.2.2.1 - (lg_sl (As.map (zV base kd))).length) Slot.unset).toArray = ls at hl ⊢
    refine zbody (Q0 := Q0) (rt := q'.2.2.1) cx ⟨by show 9 + d ≤ 8 + (d + 1); omega, by show 500 + 100 * d ≤ 400 + 100 * (d + 1); omega⟩ ih hD ?_ hZ s.heap [] 0 0 ls ⟨zent_H hlen hl, hP, hz, va_S.rf, by show 0 + _ ≤ _; rw [Nat.zero_add]; exact Nat.le_refl _, by show 0 + _ ≤ _; rw [Nat.zero_add]; exact Nat.le_refl _, ho⟩
    intro pc L st u w' i H locs cells slots ls hrt hd hs
    have hc5 : cells + u.1 ≤ q'.2.2.2.2.2.1 := hs.2.2.2.2.1
    have hc6 : slots + u.2 ≤ q'.2.2.2.2.2.2.1 := hs.2.2.2.2.2.1
    refine W.widen (k := q'.2.2.2.2.2.1) (n := q'.2.2.2.2.2.2.1) (by omega) (by omega) ?_
    have post : ∀ (r : Option Value) (t : State), Q0 r w' → t.heap = H → s.WarmedH t.vm → zQc base kd tc D S Q0 (As.map (zV base kd)).toArray s (.returned (r.map (zV base kd))) t := fun r t hq ht hW => ⟨⟨r, w', rfl, hq, zB_at cx hs ht hW⟩, hs.2.2.2.1.F ht⟩
    match i, hrt with
    | .return_, ⟨h1, h2, h3⟩ =>
      subst h2
      rw [h1] at mret
      exact W.vret hx hb (hr.trans mret) (fun t ht hW => post none t h3 ht hW) hs.2.2.2.1.2.2 hd
    | .ireturn, ⟨v, h1, h2, h3⟩ =>
      subst h1
      rcases h2 with h2 | ⟨h2, h4⟩ | ⟨h2, h4⟩ | ⟨h2, h4⟩
      · rw [h2] at mret
        exact W.iret hx hb (hr.trans mret) (fun t ht hW => post _ t h3 ht hW) hs.2.2.2.1.2.2 hd
      · rw [h2] at mret
        exact W.zret hx hb (hr.trans mret) (by rcases h4 with rfl | rfl <;> rfl) (fun t ht hW => post _ t h3 ht hW) hs.2.2.2.1.2.2 hd
      · rw [h2] at mret
        exact W.zret hx hb (hr.trans mret) h4 (fun t ht hW => post _ t h3 ht hW) hs.2.2.2.1.2.2 hd
      · rw [h2] at mret
        exact W.zret hx hb (hr.trans mret) h4 (fun t ht hW => post _ t h3 ht hW) hs.2.2.2.1.2.2 hd
    | .lreturn, ⟨v, h1, h2, h3⟩ =>
      subst h1
      rw [h2] at mret
      exact W.lret hx hb (hr.trans mret) (fun t ht hW => post _ t h3 ht hW) hs.2.2.2.1.2.2 hd
