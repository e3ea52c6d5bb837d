section ZOK3
variable {p : Program} {l : Launch} {e : Env} {R : Room} {s : State} {m : MethodId} {args : Array Value} {below : List Frame} {meth : Method} {c : Code} {H : Heap} {locs : List Loc} {cells slots : Nat} {Q : State → Prop}
variable {base : Nat} {kd : Nat → Option Nat} {tc : Nat → ClassId} {D : va_G} {S : Nat × (Nat → Int32)} {cc : ByteArray} {nL : Nat} {own : String} {cn : Nat} {g : Bool} {n pc : Nat} {L : zL} {st : List Value} {u : Nat × Nat} {w : zW} {Y : zS} {ls : Array Slot}
set_option maxHeartbeats 2000000 in
theorem zi_new (cx : zCx p s m args meth c base kd tc D S R cc nL own cn g) {idx : Nat} (hd : decode cc pc = .ok (.new idx, n)) (hn : zln (.new idx) n = true) (hR : zR S cn g (.new idx) n pc L st u w Y) (hs : zSt base kd tc D s R nL H locs cells slots ls (pc, L, st, u, w)) (kk : zKK p l e R s m args below meth c Q base kd tc D nL Y) : W p l e R s m args below meth c H locs cells slots Q (F0 m pc ls (st.map (zV base kd))) := by
  obtain ⟨hx, hb, hml, hown, hts, hK, hKon, hbs, hcn, hin, hfr, hlo⟩ := cx
  have hn1 := Nat.eq_of_beq_eq_true hn
  subst hn1
  obtain ⟨ci, fs, hc, hf, hu1, hu2, rfl⟩ := hR
  obtain ⟨own', C, T, N, e1, e2, e3⟩ := zlk_of zc_all hc
  have e1' := zown hcn e1
  subst e1'
  dsimp only at e2 e3
  obtain ⟨g1, g2, g3, g4, g5, ty, g6, fs0, q0, g7, g8, g9, g10, g11⟩ := zcls e2
  have hfs : fs0 = fs := Option.some.inj (g7.symm.trans hf)
  subst hfs
  have hKn := hK.1 ci _ e2
  have hz : H.size = base + w.1 := hs.2.2.1
  have hc5 : cells + u.1 ≤ R.cells := hs.2.2.2.2.1
  have hc6 : slots + u.2 ≤ R.slots := hs.2.2.2.2.2.1
  refine W.newcK hx hb hown (hts _ (zin e3)) (hts _ (zin g2)) (hts _ (zin g3)) rfl hd (by omega) (by omega) hKn.2.1 hz fun H1 kC hkC a1 a2 a3 => ?_
  have hdf : ∀ fs : List Value, zat zdfT ci = some fs → fs.map (zV base kd) = fs := by
    intro fs hfs
    match ci, hfs with
    | 0, h => cases h; rfl
    | 1, h => cases h; rfl
    | 2, h => cases h; rfl
    | 3, h => cases h; rfl
    | 4, h => cases h; rfl
    | 5, h => cases h; rfl
    | 6, h => cases h; rfl
    | ci + 7, h => simp [zat, zdfT] at h
  have k1 := kk H1 locs (cells + 1) (slots + fs0.length) ls (hs.push (e1 := .inr (ci, fs0)) ⟨_, e2, by
    show t_OB (base + w.1) _ _ _ H1 (vp_V (fs0.map (zV base kd)))
    rw [hdf fs0 hf]
    exact (u_born ty hts (zuin g1) hKn hkC a1 g6).to g9⟩ a2 a3 hu1 hu2)
  rw [g8] at k1
  exact k1
theorem zw_int : Cond.arrayClass .int ∈ lw_tbl := List.mem_of_getElem? (i := 152) (by decide +kernel)
theorem zw_long : Cond.arrayClass .long ∈ lw_tbl := List.mem_of_getElem? (i := 717) (by decide +kernel)
theorem zw_byte : Cond.arrayClass .byte ∈ lw_tbl := List.mem_of_getElem? (i := 232) (by decide +kernel)
set_option maxHeartbeats 2000000 in
theorem zi_newarray (cx : zCx p s m args meth c base kd tc D S R cc nL own cn g) {at0 : ArrayType} (hd : decode cc pc = .ok (.newarray at0, n)) (hn : zln (.newarray at0) n = true) (hR : zR S cn g (.newarray at0) n pc L st u w Y) (hs : zSt base kd tc D s R nL H locs cells slots ls (pc, L, st, u, w)) (kk : zKK p l e R s m args below meth c Q base kd tc D nL Y) : W p l e R s m args below meth c H locs cells slots Q (F0 m pc ls (st.map (zV base kd))) := by
  obtain ⟨hx, hb, hml, hown, hts, hK, hKon, hbs, hcn, hin, hfr, hlo⟩ := cx
  have hn1 := Nat.eq_of_beq_eq_true hn
  subst hn1
  obtain ⟨x, r, rfl, h0, hx1, hu1, hu2, hY⟩ := hR
  have hz : H.size = base + w.1 := hs.2.2.1
  have hc5 : cells + u.1 ≤ R.cells := hs.2.2.2.2.1
  have hc6 : slots + u.2 ≤ R.slots := hs.2.2.2.2.2.1
  cases at0 with
  | int =>
    subst hY
    refine va_newaK (atype := .int) (g := F0 m pc ls (.int x :: r.map (zV base kd))) (n := x) (N := x.toNatClampNeg) (rest := r.map (zV base kd)) hx hb (hts _ (zin zw_int)) rfl hd rfl h0 rfl (by show _ * 4 ≤ _; omega) (by omega) (by omega) hz fun H1 cA a1 a2 a3 a4 a5 => ?_
    have hcA : cA = tc 0 := Option.some.inj (a5.symm.trans (hK.2 0 _ rfl).2)
    refine kk H1 locs (cells + 1) (slots + x.toNatClampNeg) ls (hs.push (e1 := zai x.toNatClampNeg (fun _ => 0)) ?_ a2 a3 hu1 hu2)
    show H1[base + w.1]? = some (vp_cell _ _)
    rw [a1, hcA]
    rfl
  | long =>
    subst hY
    refine va_newaK (atype := .long) (g := F0 m pc ls (.int x :: r.map (zV base kd))) (n := x) (N := x.toNatClampNeg) (rest := r.map (zV base kd)) hx hb (hts _ (zin zw_long)) rfl hd rfl h0 rfl (by show _ * 8 ≤ _; omega) (by omega) (by omega) hz fun H1 cA a1 a2 a3 a4 a5 => ?_
    have hcA : cA = tc 1 := Option.some.inj (a5.symm.trans (hK.2 1 _ rfl).2)
    refine kk H1 locs (cells + 1) (slots + x.toNatClampNeg) ls (hs.push (e1 := zal x.toNatClampNeg (fun _ => 0)) ?_ a2 a3 hu1 hu2)
    show H1[base + w.1]? = some (vp_cell _ _)
    rw [a1, hcA]
    rfl
  | byte =>
    subst hY
    refine va_newaK (atype := .byte) (g := F0 m pc ls (.int x :: r.map (zV base kd))) (n := x) (N := x.toNatClampNeg) (rest := r.map (zV base kd)) hx hb (hts _ (zin zw_byte)) rfl hd rfl h0 rfl (by show _ * 1 ≤ _; omega) (by omega) (by omega) hz fun H1 cA a1 a2 a3 a4 a5 => ?_
    have hcA : cA = tc 2 := Option.some.inj (a5.symm.trans (hK.2 2 _ rfl).2)
    refine kk H1 locs (cells + 1) (slots + x.toNatClampNeg) ls (hs.push (e1 := zab x.toNatClampNeg (fun _ => 0)) ?_ a2 a3 hu1 hu2)
    show H1[base + w.1]? = some (vp_cell _ _)
    rw [a1, hcA]
    rfl
  | _ => exact hY.elim
set_option maxHeartbeats 2000000 in
theorem zi_anewarray (cx : zCx p s m args meth c base kd tc D S R cc nL own cn g) {idx : Nat} (hd : decode cc pc = .ok (.anewarray idx, n)) (hn : zln (.anewarray idx) n = true) (hR : zR S cn g (.anewarray idx) n pc L st u w Y) (hs : zSt base kd tc D s R nL H locs cells slots ls (pc, L, st, u, w)) (kk : zKK p l e R s m args below meth c Q base kd tc D nL Y) : W p l e R s m args below meth c H locs cells slots Q (F0 m pc ls (st.map (zV base kd))) := by
  obtain ⟨hx, hb, hml, hown, hts, hK, hKon, hbs, hcn, hin, hfr, hlo⟩ := cx
  have hn1 := Nat.eq_of_beq_eq_true hn
  subst hn1
  obtain ⟨x, r, t, rfl, ht, h0, hx1, hu1, hu2, rfl⟩ := hR
  obtain ⟨own', C, e1, e2, e3, e4⟩ := zlk_of za_all ht
  have e1' := zown hcn e1
  subst e1'
  dsimp only at e2 e3 e4
  have hz : H.size = base + w.1 := hs.2.2.1
  have hc5 : cells + u.1 ≤ R.cells := hs.2.2.2.2.1
  have hc6 : slots + u.2 ≤ R.slots := hs.2.2.2.2.2.1
  refine W.anew hx hb hown (hts _ (zin e3)) (hts _ (zin e4)) rfl hd rfl h0 (by omega) (by omega) (by omega) fun cA kA comp a1 a2 a3 a4 => ?_
  have htc : s.vm.findClass ("[" ++ (FieldType.object C).toString) = some (tc t) := by
    rcases e2 with ⟨rfl, rfl⟩ | ⟨rfl, rfl⟩
    · obtain ⟨_, _, _, _, _, h⟩ := (hK.2 3 _ rfl).2
      exact h
    · obtain ⟨_, _, _, _, _, h⟩ := (hK.2 4 _ rfl).2
      exact h
  have hcA : cA = tc t := Option.some.inj (a1.symm.trans htc)
  have k1 := kk (H.push ({ cls := cA, slots := Array.replicate x.toNatClampNeg .null, vm := .none } : Cell)) locs (cells + 1) (slots + x.toNatClampNeg) ls (hs.push (e1 := zaq t x.toNatClampNeg (fun _ => none)) (by
    show (H.push _)[base + w.1]? = some (vp_cell _ _)
    rw [← hz, Array.getElem?_push_size, arrV_new, hcA]
    rfl) (by rw [Array.size_push, hz]) (fun q hq => by rw [Array.getElem?_push, if_neg (by omega)]) hu1 hu2)
  rw [show (List.map (zV base kd) ((pc + 3, L, .ref w.1 :: r, (u.1 - 1, u.2 - x.toNatClampNeg), zpush w (zaq t x.toNatClampNeg (fun _ => none))) : zS).2.2.1) = .ref H.size :: r.map (zV base kd) by rw [hz]; rfl] at k1
  exact k1
theorem zw_oi : Cond.instanceMethod Lib.objectInit ∈ lw_tbl := List.mem_of_getElem? (i := 99) (by decide +kernel)
theorem zw_oc : Cond.code Lib.objectInit ⟨#[0xb1]⟩ 1 none ∈ lw_tbl := List.mem_of_getElem? (i := 100) rfl
set_option maxHeartbeats 2000000 in
theorem zi_objInit (cx : zCx p s m args meth c base kd tc D S R cc nL own cn g) {idx : Nat} (hd : decode cc pc = .ok (.invokespecial idx, n)) (hn : zln (.invokespecial idx) n = true) (hR : zR S cn g (.invokespecial idx) n pc L st u w Y) (hs : zSt base kd tc D s R nL H locs cells slots ls (pc, L, st, u, w)) (kk : zKK p l e R s m args below meth c Q base kd tc D nL Y) : W p l e R s m args below meth c H locs cells slots Q (F0 m pc ls (st.map (zV base kd))) := by
  obtain ⟨hx, hb, hml, hown, hts, hK, hKon, hbs, hcn, hin, hfr, hlo⟩ := cx
  have hn1 := Nat.eq_of_beq_eq_true hn
  subst hn1
  obtain ⟨a, r, hm, rfl, hr, rfl⟩ := hR
  obtain ⟨own', y, e1, e2, e3⟩ := zlk_of zl_all hm
  have e1' := zown hcn e1
  subst e1'
  have ey : Lib.objectInit = y := Option.some.inj e2
  subst ey
  rcases e3 with e3 | ⟨-, e3⟩
  · refine W.objInit hx hb hown (hts _ (zin e3)) (hts _ (zin zw_oi)) (hts _ (zin zw_oc)) rfl (by rw [hml]; exact hs.1.1) rfl hd (by omega) ?_ (kk H locs cells slots ls hs)
    show 2 * 0 + ((r.map (zV base kd)).map fun v => v.category).sum + 12 ≤ R.locals
    rw [zcat_map]
    omega
  · exact absurd e3 (Nat.lt_irrefl 1000)
theorem zw_max1 : Cond.static Lib.Math.max.name ∈ lw_tbl := List.mem_of_getElem? (i := 520) (by decide +kernel)
set_option maxRecDepth 20000 in
theorem zw_max2 : Cond.code Lib.Math.max.name Lib.Math.max.code 2 (some .int) ∈ lw_tbl := List.mem_of_getElem? (i := 521) rfl
theorem zw_min1 : Cond.static Lib.Math.min.name ∈ lw_tbl := List.mem_of_getElem? (i := 517) (by decide +kernel)
set_option maxRecDepth 20000 in
theorem zw_min2 : Cond.code Lib.Math.min.name Lib.Math.min.code 2 (some .int) ∈ lw_tbl := List.mem_of_getElem? (i := 518) rfl
theorem zw_math : Cond.initialized "java/lang/Math" ∈ lw_tbl := List.mem_of_getElem? (i := 90) (by decide +kernel)
theorem zw_nat : Cond.native arraycopyName ∈ lw_tbl := List.mem_of_getElem? (i := 161) (by decide +kernel)
theorem zw_sta : Cond.static arraycopyName ∈ lw_tbl := List.mem_of_getElem? (i := 160) (by decide +kernel)
theorem zw_sys : Cond.initialized "java/lang/System" ∈ lw_tbl := List.mem_of_getElem? (i := 82) (by decide +kernel)
set_option maxHeartbeats 4000000 in
theorem zcopy_ok (cx : zCx p s m args meth c base kd tc D S R cc nL own cn g) {idx : Nat} (hd : decode cc pc = .ok (.invokestatic idx, 3)) (hlink : (Cond.methodLink own idx arraycopyName).before args s = true) {k dp sp : Int32} {d : Nat} {s0 : Value} {r : List Value} {m0 m1 : Nat} {f0 f1 : Nat → Int32} (hw : w.2 d = zai m1 f1) (hr : zcat r ≤ 8) (h1 : ¬ sp < 0) (h2 : ¬ dp < 0) (h3 : ¬ k < 0) (h4 : sp.toNatClampNeg + k.toNatClampNeg ≤ m0) (h5 : dp.toNatClampNeg + k.toNatClampNeg ≤ m1) (h6 : (∃ a, s0 = .ref a ∧ w.2 a = zai m0 f0) ∨ (∃ q, s0 = .retAddr q ∧ q < 4 ∧ (m0, f0) = zct S q))
    (hs : zSt base kd tc D s R nL H locs cells slots ls (pc, L, .int k :: .int dp :: .ref d :: .int sp :: s0 :: r, u, w))
    (kk : ∀ (H1 : Heap) (locs1 : List Loc), zSt base kd tc D s R nL H1 locs1 cells slots ls (pc + 3, L, r, u, zset w d (zai m1 (va_cpy f0 f1 sp.toNatClampNeg dp.toNatClampNeg k.toNatClampNeg))) → W p l e R s m args below meth c H1 locs1 cells slots Q (F0 m (pc + 3) ls (r.map (zV base kd)))) :
    W p l e R s m args below meth c H locs cells slots Q (F0 m pc ls (.int k :: .int dp :: .ref (base + d) :: .int sp :: zV base kd s0 :: r.map (zV base kd))) := by
  obtain ⟨hx, hb, hml, hown, hts, hK, hKon, hbs, hcn, hin, hfr, hlo⟩ := cx
  have nn : ∀ z : Int32, ¬ z < 0 → z.toInt = (z.toNatClampNeg : Int) := fun z hz => by
    have := Int32.le_iff_toInt_le.mp (Int32.not_lt.mp hz)
    have hz0 : (0 : Int) ≤ z.toInt := by simpa using this
    show z.toInt = ((z.toInt.toNat : Nat) : Int)
    omega
  have hsrc : ∃ (a0 : Nat) (scr : Cell), zV base kd s0 = .ref a0 ∧ H[a0]? = some scr ∧ s.isArrayOf scr .int ∧ scr.vm ≠ .unknown ∧ m0 ≤ scr.slots.size ∧ ∀ j : Nat, j < m0 → scr.slots[j]? = some (.int (f0 j)) := by
    rcases h6 with ⟨a, rfl, hw0⟩ | ⟨q, rfl, hq, hz⟩
    · refine ⟨base + a, _, rfl, hs.2.1 a _ (zws_at hs.2.2.2.2.2.2 hw0 (fun h => by cases h)), (hK.2 0 _ rfl).1 m0 (fun j => .int (f0 j)), fun q => (by cases q), ?_, fun j hj => ?_⟩
      · show m0 ≤ (arrV _ _ _).slots.size
        rw [arrV_size]
        exact Nat.le_refl _
      · show (arrV _ _ _).slots[j]? = _
        rw [arrV_read _ _ hj]
    · obtain ⟨a, a1, ⟨scr, y1, y2, y3, y4, y5⟩, y6⟩ := hKon.1 q (by omega)
      rw [← hz] at y4 y5
      refine ⟨a, scr, zV_const a1, ?_, y2, y3, Nat.le_of_eq y4.symm, y5⟩
      rw [hs.2.2.2.1.2.1 a (by omega) (Nat.not_le.mpr y6)]
      exact y1
  obtain ⟨a0, scr, e0, hc0, hs2, hs3, hs4, hs5⟩ := hsrc
  rw [e0]
  have hc1 : H[base + d]? = some (vp_cell (tc 0) (m1, .inl f1)) := hs.2.1 d _ (zws_at hs.2.2.2.2.2.2 hw (fun h => by cases h))
  obtain ⟨hs6, k0, hk0, cm0, hkk0⟩ := hs2
  obtain ⟨-, k1, hk1, cm1, hkk1⟩ := (hK.2 0 _ rfl).1 m1 (fun j => .int (f1 j))
  intro T hT X
  obtain ⟨vm', X', step⟩ := X.arraycopy hx hown hlink (hts _ (zin zw_nat)) (hts _ (zin zw_sta)) (hts _ (zin zw_sys)) (src := a0) (dst := base + d) (cs := scr) (cd := vp_cell (tc 0) (m1, .inl f1)) (srcPos := sp) (destPos := dp) (n := k) (by rw [hT]; exact hc0) (by rw [hT]; exact hc1)
    hs6 (fun _ h => by cases h) hs3 (fun h => by cases h) hk0 hk1 hkk0 hkk1 (by simp [refKind]) h1 h2 h3
    (by rw [nn sp h1, nn k h3]; omega)
    (by rw [nn dp h2, nn k h3]; show ¬ _ > ((arrV (tc 0) m1 (fun j => .int (f1 j))).slots.size : Int); rw [arrV_size]; omega)
    (fun vm₁ _ i hi => by
      have e1 : scr.slots.getD (sp.toNatClampNeg + i) .null = .int (f0 (sp.toNatClampNeg + i)) := by
        rw [Array.getD_eq_getD_getElem?, hs5 _ (by omega)]
        rfl
      rw [e1]
      exact ⟨rfl, trivial⟩)
    (g := F0 m pc ls (.int k :: .int dp :: .ref (base + d) :: .int sp :: .ref a0 :: r.map (zV base kd))) rfl (by rw [hml]; exact hs.1.1) (rest := r.map (zV base kd)) rfl (by rw [hb]; exact hd) (by omega) (by
      show 2 * 0 + ((r.map (zV base kd)).map fun v => v.category).sum + (nativeFrameWords "java/lang/System" "arraycopy" 5 + 11) ≤ R.locals
      rw [zcat_map]
      have : nativeFrameWords "java/lang/System" "arraycopy" 5 ≤ 300 := by decide +kernel
      omega)
  have ec : copied scr (vp_cell (tc 0) (m1, .inl f1)) sp dp k = vp_cell (tc 0) (m1, .inl (va_cpy f0 f1 sp.toNatClampNeg dp.toNatClampNeg k.toNatClampNeg)) := va_copiedX (fun z => .int z) scr (tc 0) f0 f1 hs5 h4
  rw [ec] at X' step
  have hlt : base + d < H.size := (Array.getElem?_eq_some_iff.mp hc1).1
  have hheap : ((T.setVm vm').setCell (base + d) (vp_cell (tc 0) (m1, .inl (va_cpy f0 f1 sp.toNatClampNeg dp.toNatClampNeg k.toNatClampNeg)))).heap = H.setIfInBounds (base + d) (vp_cell (tc 0) (m1, .inl (va_cpy f0 f1 sp.toNatClampNeg dp.toNatClampNeg k.toNatClampNeg))) := by rw [← hT]; rfl
  have h8 := hs.put (pc' := pc + 3) (st' := r) (k := 0) (e1 := zai m1 (va_cpy f0 f1 sp.toNatClampNeg dp.toNatClampNeg k.toNatClampNeg)) (H1 := H.setIfInBounds (base + d) (vp_cell (tc 0) (m1, .inl (va_cpy f0 f1 sp.toNatClampNeg dp.toNatClampNeg k.toNatClampNeg)))) hw (fun h => by cases h) (show (H.setIfInBounds (base + d) _)[base + d]? = some _ by simp [Array.getElem?_setIfInBounds, hlt]) (by simp) (fun q hq => by simp [Array.getElem?_setIfInBounds, Ne.symm hq])
  obtain ⟨t, a1, b1⟩ := kk _ _ ⟨h8.1, h8.2.1, h8.2.2.1, ⟨h8.2.2.2.1.1, h8.2.2.2.1.2.1, fun q hq => by
      rcases List.mem_append.mp hq with h | h
      · exact hs.2.2.2.1.2.2 q h
      · obtain ⟨z, -, hz⟩ := List.mem_map.mp h
        rw [← hz]
        exact Nat.le_add_right base d⟩, h8.2.2.2.2⟩ _ hheap X'
  exact ⟨t, step t a1, b1⟩
set_option maxHeartbeats 2000000 in
theorem zi_istatic (cx : zCx p s m args meth c base kd tc D S R cc nL own cn g) {idx : Nat} (hd : decode cc pc = .ok (.invokestatic idx, n)) (hn : zln (.invokestatic idx) n = true) (hR : zR S cn g (.invokestatic idx) n pc L st u w Y) (hs : zSt base kd tc D s R nL H locs cells slots ls (pc, L, st, u, w)) (kk : zKK p l e R s m args below meth c Q base kd tc D nL Y) : W p l e R s m args below meth c H locs cells slots Q (F0 m pc ls (st.map (zV base kd))) := by
  obtain ⟨hx, hb, hml, hown, hts, hK, hKon, hbs, hcn, hin, hfr, hlo⟩ := cx
  have hn1 := Nat.eq_of_beq_eq_true hn
  subst hn1
  rcases hR with ⟨hm, hR⟩ | ⟨hm, x, y, r, rfl, hr, rfl⟩ | ⟨hm, x, y, r, rfl, hr, rfl⟩
  · obtain ⟨own', y, e1, e2, e3⟩ := zlk_of zl_all hm
    have e1' := zown hcn e1
    subst e1'
    have ey : arraycopyName = y := Option.some.inj e2
    subst ey
    rcases e3 with e3 | ⟨-, e3⟩
    · obtain ⟨k, dp, d, sp, s0, r, m1, f1, rfl, hr, hw, h1, h2, h3, h5, m0, f0, h6, h4, rfl⟩ := hR
      exact zcopy_ok ⟨hx, hb, hml, hown, hts, hK, hKon, hbs, hcn, hin, hfr, hlo⟩ hd (hts _ (zin e3)) hw hr h1 h2 h3 h4 h5 h6 hs (fun H1 locs1 h => kk H1 locs1 cells slots ls h)
    · exact absurd e3 (by show ¬ (1001 : Nat) < 1000; decide)
  · obtain ⟨own', y', e1, e2, e3⟩ := zlk_of zl_all hm
    have e1' := zown hcn e1
    subst e1'
    have ey : Lib.Math.max.name = y' := Option.some.inj e2
    subst ey
    rcases e3 with e3 | ⟨-, e3⟩
    · have hc5 : cells + u.1 ≤ R.cells := hs.2.2.2.2.1
      have hc6 : slots + u.2 ≤ R.slots := hs.2.2.2.2.2.1
      refine va_mmax hx hb (by rw [hml]; exact hs.1.1.symm) hown (hts _ (zin e3)) (hts _ (zin zw_max1)) (hts _ (zin zw_math)) (hts _ (zin zw_max2)) (by omega) ?_ (by omega) (by omega) hd (kk H locs cells slots ls hs)
      rw [zcat_map]
      omega
    · exact absurd e3 (by show ¬ (1004 : Nat) < 1000; decide)
  · obtain ⟨own', y', e1, e2, e3⟩ := zlk_of zl_all hm
    have e1' := zown hcn e1
    subst e1'
    have ey : Lib.Math.min.name = y' := Option.some.inj e2
    subst ey
    rcases e3 with e3 | ⟨-, e3⟩
    · have hc5 : cells + u.1 ≤ R.cells := hs.2.2.2.2.1
      have hc6 : slots + u.2 ≤ R.slots := hs.2.2.2.2.2.1
      refine va_mmin hx hb (by rw [hml]; exact hs.1.1.symm) hown (hts _ (zin e3)) (hts _ (zin zw_min1)) (hts _ (zin zw_math)) (hts _ (zin zw_min2)) (by omega) ?_ (by omega) (by omega) hd (kk H locs cells slots ls hs)
      rw [zcat_map]
      omega
    · exact absurd e3 (by show ¬ (1005 : Nat) < 1000; decide)
end ZOK3
