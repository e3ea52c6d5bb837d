theorem zV_const {base : Nat} {kd : Nat → Option Nat} {q a : Nat} (h : kd q = some a) : zV base kd (.retAddr q) = .ref a := by
  show va_rf (kd q) = _
  rw [h]
  rfl
theorem zV_none {base : Nat} {kd : Nat → Option Nat} {q : Nat} (h : kd q = none) : zV base kd (.retAddr q) = .null := by
  show va_rf (kd q) = _
  rw [h]
  rfl
theorem zstr_at {q : Nat} {bs : List Int32} (h : zat zstrs q = some bs) : q < 13 ∧ zstrs.getD q [] = bs ∧ (zstrs.map List.length).getD q 0 = bs.length := by
  have h1 : q < 13 := zat_lt h
  rw [zat_get] at h
  refine ⟨h1, by simp [List.getD, h], by simp [List.getD, h]⟩
theorem zw_sv : Cond.fieldLink "java/lang/String" 9 "java/lang/String" "value" "[B" ∈ lw_tbl := List.mem_of_getElem? (i := 1397) (by decide +kernel)
theorem zw_sc : Cond.fieldLink "java/lang/String" 15 "java/lang/String" "coder" "B" ∈ lw_tbl := List.mem_of_getElem? (i := 1398) (by decide +kernel)
theorem zw_ss : Cond.fieldLink "java/lang/String" 38 "java/lang/String" "COMPACT_STRINGS" "Z" ∈ lw_tbl := List.mem_of_getElem? (i := 341) (by decide +kernel)
theorem zw_sf : Cond.fieldLink "java/lang/String" 1053 "jdk/internal/util/Preconditions" "SIOOBE_FORMATTER" "Ljava/util/function/BiFunction;" ∈ lw_tbl := List.mem_of_getElem? (i := 357) (by decide +kernel)
section ZOK2
variable {p : Program} {l : Launch} {e : Env} {R : Room} {s : State} {m : MethodId} {args : Array Value} {below : List Frame} {meth : Method} {c : Code} {H : Heap} {locs : List Loc} {cells slots : Nat} {Q : State → Prop}
variable {base : Nat} {kd : Nat → Option Nat} {tc : Nat → ClassId} {D : va_G} {S : Nat × (Nat → Int32)} {cc : ByteArray} {nL : Nat} {own : String} {cn : Nat} {g : Bool} {n pc : Nat} {L : zL} {st : List Value} {u : Nat × Nat} {w : zW} {Y : zS} {ls : Array Slot}
/-- what goes on behind an instruction -/
def zKK (p : Program) (l : Launch) (e : Env) (R : Room) (s : State) (m : MethodId) (args : Array Value) (below : List Frame) (meth : Method) (c : Code) (Q : State → Prop) (base : Nat) (kd : Nat → Option Nat) (tc : Nat → ClassId) (D : va_G) (nL : Nat) (Y : zS) : Prop :=
  ∀ (H1 : Heap) (locs1 : List Loc) (cells1 slots1 : Nat) (ls1 : Array Slot), zSt base kd tc D s R nL H1 locs1 cells1 slots1 ls1 Y → W p l e R s m args below meth c H1 locs1 cells1 slots1 Q (F0 m Y.1 ls1 (Y.2.2.1.map (zV base kd)))
set_option maxHeartbeats 2000000 in
theorem zi_aconst_null (cx : zCx p s m args meth c base kd tc D S R cc nL own cn g) (hd : decode cc pc = .ok (.aconst_null, n)) (hn : zln (.aconst_null) n = true) (hR : zR S cn g (.aconst_null) n pc L st u w Y) (hs : zSt base kd tc D s R nL H locs cells slots ls (pc, L, st, u, w)) (kk : zKK p l e R s m args below meth c Q base kd tc D nL Y) : W p l e R s m args below meth c H locs cells slots Q (F0 m pc ls (st.map (zV base kd))) := by
  obtain ⟨hx, hb, hml, hown, hts, hK, hKon, hbs, hcn, hin, hfr, hlo⟩ := cx
  have hn1 := Nat.eq_of_beq_eq_true hn
  subst hn1
  subst hR
  exact lv_null hx hb hd (kk H locs cells slots ls hs)
set_option maxHeartbeats 2000000 in
theorem zi_iconst (cx : zCx p s m args meth c base kd tc D S R cc nL own cn g) {z : Int} (hd : decode cc pc = .ok (.iconst z, n)) (hn : zln (.iconst z) n = true) (hR : zR S cn g (.iconst z) n pc L st u w Y) (hs : zSt base kd tc D s R nL H locs cells slots ls (pc, L, st, u, w)) (kk : zKK p l e R s m args below meth c Q base kd tc D nL Y) : W p l e R s m args below meth c H locs cells slots Q (F0 m pc ls (st.map (zV base kd))) := by
  obtain ⟨hx, hb, hml, hown, hts, hK, hKon, hbs, hcn, hin, hfr, hlo⟩ := cx
  have hn1 := Nat.eq_of_beq_eq_true hn
  subst hn1
  subst hR
  exact lv_iconst hx hb hd rfl (kk H locs cells slots ls hs)
set_option maxHeartbeats 2000000 in
theorem zi_bipush (cx : zCx p s m args meth c base kd tc D S R cc nL own cn g) {z : Int} (hd : decode cc pc = .ok (.bipush z, n)) (hn : zln (.bipush z) n = true) (hR : zR S cn g (.bipush z) n pc L st u w Y) (hs : zSt base kd tc D s R nL H locs cells slots ls (pc, L, st, u, w)) (kk : zKK p l e R s m args below meth c Q base kd tc D nL Y) : W p l e R s m args below meth c H locs cells slots Q (F0 m pc ls (st.map (zV base kd))) := by
  obtain ⟨hx, hb, hml, hown, hts, hK, hKon, hbs, hcn, hin, hfr, hlo⟩ := cx
  have hn1 := Nat.eq_of_beq_eq_true hn
  subst hn1
  subst hR
  exact lv_bipush hx hb hd rfl (kk H locs cells slots ls hs)
set_option maxHeartbeats 2000000 in
theorem zi_sipush (cx : zCx p s m args meth c base kd tc D S R cc nL own cn g) {z : Int} (hd : decode cc pc = .ok (.sipush z, n)) (hn : zln (.sipush z) n = true) (hR : zR S cn g (.sipush z) n pc L st u w Y) (hs : zSt base kd tc D s R nL H locs cells slots ls (pc, L, st, u, w)) (kk : zKK p l e R s m args below meth c Q base kd tc D nL Y) : W p l e R s m args below meth c H locs cells slots Q (F0 m pc ls (st.map (zV base kd))) := by
  obtain ⟨hx, hb, hml, hown, hts, hK, hKon, hbs, hcn, hin, hfr, hlo⟩ := cx
  have hn1 := Nat.eq_of_beq_eq_true hn
  subst hn1
  subst hR
  exact lv_sipush hx hb hd rfl (kk H locs cells slots ls hs)
set_option maxHeartbeats 2000000 in
theorem zi_lconst (cx : zCx p s m args meth c base kd tc D S R cc nL own cn g) {z : Fin 2} (hd : decode cc pc = .ok (.lconst z, n)) (hn : zln (.lconst z) n = true) (hR : zR S cn g (.lconst z) n pc L st u w Y) (hs : zSt base kd tc D s R nL H locs cells slots ls (pc, L, st, u, w)) (kk : zKK p l e R s m args below meth c Q base kd tc D nL Y) : W p l e R s m args below meth c H locs cells slots Q (F0 m pc ls (st.map (zV base kd))) := by
  obtain ⟨hx, hb, hml, hown, hts, hK, hKon, hbs, hcn, hin, hfr, hlo⟩ := cx
  have hn1 := Nat.eq_of_beq_eq_true hn
  subst hn1
  subst hR
  exact lv_lconst hx hb hd rfl (kk H locs cells slots ls hs)
set_option maxHeartbeats 2000000 in
theorem zi_ldc (cx : zCx p s m args meth c base kd tc D S R cc nL own cn g) {idx : Nat} (hd : decode cc pc = .ok (.ldc idx, n)) (hn : zln (.ldc idx) n = true) (hR : zR S cn g (.ldc idx) n pc L st u w Y) (hs : zSt base kd tc D s R nL H locs cells slots ls (pc, L, st, u, w)) (kk : zKK p l e R s m args below meth c Q base kd tc D nL Y) : W p l e R s m args below meth c H locs cells slots Q (F0 m pc ls (st.map (zV base kd))) := by
  obtain ⟨hx, hb, hml, hown, hts, hK, hKon, hbs, hcn, hin, hfr, hlo⟩ := cx
  have hn1 := Nat.eq_of_beq_eq_true hn
  subst hn1
  rcases hR with ⟨v, hv, rfl⟩ | ⟨q, hq, rfl⟩
  · obtain ⟨own', e1, e2⟩ := zlk_of zi_all hv
    have e1' := zown hcn e1
    subst e1'
    exact lv_ldc hx hb hown (hts _ (zin e2)) hd (kk H locs cells slots ls hs)
  · obtain ⟨e0, tx, e1, e2⟩ := zlk_of zt_all hq
    have e1' : own = "LastDays$Tape" := by
      rw [e0] at hcn
      exact (Option.some.inj hcn).symm
    subst e1'
    obtain ⟨a, a1, a2⟩ := hKon.2.2.2.1 q idx tx e1
    have k1 := kk H locs cells slots ls hs
    dsimp only at k1
    rw [List.map_cons] at k1
    rw [zV_const a1] at k1
    exact va_ldcS hx hb hown a2 hd k1
set_option maxHeartbeats 2000000 in
theorem zi_ldc_w (cx : zCx p s m args meth c base kd tc D S R cc nL own cn g) {idx : Nat} (hd : decode cc pc = .ok (.ldc_w idx, n)) (hn : zln (.ldc_w idx) n = true) (hR : zR S cn g (.ldc_w idx) n pc L st u w Y) (hs : zSt base kd tc D s R nL H locs cells slots ls (pc, L, st, u, w)) (kk : zKK p l e R s m args below meth c Q base kd tc D nL Y) : W p l e R s m args below meth c H locs cells slots Q (F0 m pc ls (st.map (zV base kd))) := by
  obtain ⟨hx, hb, hml, hown, hts, hK, hKon, hbs, hcn, hin, hfr, hlo⟩ := cx
  have hn1 := Nat.eq_of_beq_eq_true hn
  subst hn1
  obtain ⟨v, hv, rfl⟩ := hR
  obtain ⟨own', e1, e2⟩ := zlk_of zi_all hv
  have e1' := zown hcn e1
  subst e1'
  exact lv_ldcw hx hb hown (hts _ (zin e2)) hd (kk H locs cells slots ls hs)
set_option maxHeartbeats 2000000 in
theorem zi_ldc2_w (cx : zCx p s m args meth c base kd tc D S R cc nL own cn g) {idx : Nat} (hd : decode cc pc = .ok (.ldc2_w idx, n)) (hn : zln (.ldc2_w idx) n = true) (hR : zR S cn g (.ldc2_w idx) n pc L st u w Y) (hs : zSt base kd tc D s R nL H locs cells slots ls (pc, L, st, u, w)) (kk : zKK p l e R s m args below meth c Q base kd tc D nL Y) : W p l e R s m args below meth c H locs cells slots Q (F0 m pc ls (st.map (zV base kd))) := by
  obtain ⟨hx, hb, hml, hown, hts, hK, hKon, hbs, hcn, hin, hfr, hlo⟩ := cx
  have hn1 := Nat.eq_of_beq_eq_true hn
  subst hn1
  obtain ⟨v, hv, rfl⟩ := hR
  obtain ⟨own', e1, e2⟩ := zlk_of zj_all hv
  have e1' := zown hcn e1
  subst e1'
  exact lv_ldc2 hx hb hown (hts _ (zin e2)) hd (kk H locs cells slots ls hs)
set_option maxHeartbeats 2000000 in
theorem zi_iload (cx : zCx p s m args meth c base kd tc D S R cc nL own cn g) {k : Nat} (hd : decode cc pc = .ok (.iload k, n)) (hn : zln (.iload k) n = true) (hR : zR S cn g (.iload k) n pc L st u w Y) (hs : zSt base kd tc D s R nL H locs cells slots ls (pc, L, st, u, w)) (kk : zKK p l e R s m args below meth c Q base kd tc D nL Y) : W p l e R s m args below meth c H locs cells slots Q (F0 m pc ls (st.map (zV base kd))) := by
  obtain ⟨hx, hb, hml, hown, hts, hK, hKon, hbs, hcn, hin, hfr, hlo⟩ := cx
  have hn1 := Nat.eq_of_beq_eq_true hn
  subst hn1
  obtain ⟨x, h0, rfl⟩ := hR
  exact lv_iload hx hb hd (hs.1.2.2.2 _ _ h0) (kk H locs cells slots ls hs)
set_option maxHeartbeats 2000000 in
theorem zi_iload_n (cx : zCx p s m args meth c base kd tc D S R cc nL own cn g) {k : Fin 4} (hd : decode cc pc = .ok (.iload_n k, n)) (hn : zln (.iload_n k) n = true) (hR : zR S cn g (.iload_n k) n pc L st u w Y) (hs : zSt base kd tc D s R nL H locs cells slots ls (pc, L, st, u, w)) (kk : zKK p l e R s m args below meth c Q base kd tc D nL Y) : W p l e R s m args below meth c H locs cells slots Q (F0 m pc ls (st.map (zV base kd))) := by
  obtain ⟨hx, hb, hml, hown, hts, hK, hKon, hbs, hcn, hin, hfr, hlo⟩ := cx
  have hn1 := Nat.eq_of_beq_eq_true hn
  subst hn1
  obtain ⟨x, h0, rfl⟩ := hR
  exact lv_iload_n hx hb hd rfl (hs.1.2.2.2 _ _ h0) (kk H locs cells slots ls hs)
set_option maxHeartbeats 2000000 in
theorem zi_lload (cx : zCx p s m args meth c base kd tc D S R cc nL own cn g) {k : Nat} (hd : decode cc pc = .ok (.lload k, n)) (hn : zln (.lload k) n = true) (hR : zR S cn g (.lload k) n pc L st u w Y) (hs : zSt base kd tc D s R nL H locs cells slots ls (pc, L, st, u, w)) (kk : zKK p l e R s m args below meth c Q base kd tc D nL Y) : W p l e R s m args below meth c H locs cells slots Q (F0 m pc ls (st.map (zV base kd))) := by
  obtain ⟨hx, hb, hml, hown, hts, hK, hKon, hbs, hcn, hin, hfr, hlo⟩ := cx
  have hn1 := Nat.eq_of_beq_eq_true hn
  subst hn1
  obtain ⟨x, h0, rfl⟩ := hR
  exact lv_lload hx hb hd (hs.1.2.2.2 _ _ h0) (kk H locs cells slots ls hs)
set_option maxHeartbeats 2000000 in
theorem zi_lload_n (cx : zCx p s m args meth c base kd tc D S R cc nL own cn g) {k : Fin 4} (hd : decode cc pc = .ok (.lload_n k, n)) (hn : zln (.lload_n k) n = true) (hR : zR S cn g (.lload_n k) n pc L st u w Y) (hs : zSt base kd tc D s R nL H locs cells slots ls (pc, L, st, u, w)) (kk : zKK p l e R s m args below meth c Q base kd tc D nL Y) : W p l e R s m args below meth c H locs cells slots Q (F0 m pc ls (st.map (zV base kd))) := by
  obtain ⟨hx, hb, hml, hown, hts, hK, hKon, hbs, hcn, hin, hfr, hlo⟩ := cx
  have hn1 := Nat.eq_of_beq_eq_true hn
  subst hn1
  obtain ⟨x, h0, rfl⟩ := hR
  exact lv_lload_n hx hb hd rfl (hs.1.2.2.2 _ _ h0) (kk H locs cells slots ls hs)
set_option maxHeartbeats 2000000 in
theorem zi_aload (cx : zCx p s m args meth c base kd tc D S R cc nL own cn g) {k : Nat} (hd : decode cc pc = .ok (.aload k, n)) (hn : zln (.aload k) n = true) (hR : zR S cn g (.aload k) n pc L st u w Y) (hs : zSt base kd tc D s R nL H locs cells slots ls (pc, L, st, u, w)) (kk : zKK p l e R s m args below meth c Q base kd tc D nL Y) : W p l e R s m args below meth c H locs cells slots Q (F0 m pc ls (st.map (zV base kd))) := by
  obtain ⟨hx, hb, hml, hown, hts, hK, hKon, hbs, hcn, hin, hfr, hlo⟩ := cx
  have hn1 := Nat.eq_of_beq_eq_true hn
  subst hn1
  obtain ⟨v, h0, hv, rfl⟩ := hR
  match v, h0, hv with
  | .ref a, h0, _ => exact lv_aload hx hb hd (hs.1.2.2.2 _ _ h0) (kk H locs cells slots ls hs)
  | .null, h0, _ => exact lv_aloadN hx hb hd (hs.1.2.2.2 _ _ h0) (kk H locs cells slots ls hs)
  | .retAddr q, h0, _ =>
    have hl := hs.1.2.2.2 _ _ h0
    have k1 := (kk H locs cells slots ls hs)
    dsimp only at k1
    rw [List.map_cons] at k1
    cases hkq : kd q with
    | none =>
      rw [zV_none hkq] at hl k1
      exact lv_aloadN hx hb hd hl k1
    | some a =>
      rw [zV_const hkq] at hl k1
      exact lv_aload hx hb hd hl k1
set_option maxHeartbeats 2000000 in
theorem zi_aload_n (cx : zCx p s m args meth c base kd tc D S R cc nL own cn g) {k : Fin 4} (hd : decode cc pc = .ok (.aload_n k, n)) (hn : zln (.aload_n k) n = true) (hR : zR S cn g (.aload_n k) n pc L st u w Y) (hs : zSt base kd tc D s R nL H locs cells slots ls (pc, L, st, u, w)) (kk : zKK p l e R s m args below meth c Q base kd tc D nL Y) : W p l e R s m args below meth c H locs cells slots Q (F0 m pc ls (st.map (zV base kd))) := by
  obtain ⟨hx, hb, hml, hown, hts, hK, hKon, hbs, hcn, hin, hfr, hlo⟩ := cx
  have hn1 := Nat.eq_of_beq_eq_true hn
  subst hn1
  obtain ⟨v, h0, hv, rfl⟩ := hR
  match v, h0, hv with
  | .ref a, h0, _ => exact lv_aload_n hx hb hd rfl (hs.1.2.2.2 _ _ h0) (kk H locs cells slots ls hs)
  | .null, h0, _ => exact lv_aload_nN hx hb hd rfl (hs.1.2.2.2 _ _ h0) (kk H locs cells slots ls hs)
  | .retAddr q, h0, _ =>
    have hl := hs.1.2.2.2 _ _ h0
    have k1 := (kk H locs cells slots ls hs)
    dsimp only at k1
    rw [List.map_cons] at k1
    cases hkq : kd q with
    | none =>
      rw [zV_none hkq] at hl k1
      exact lv_aload_nN hx hb hd rfl hl k1
    | some a =>
      rw [zV_const hkq] at hl k1
      exact lv_aload_n hx hb hd rfl hl k1
set_option maxHeartbeats 2000000 in
theorem zi_istore (cx : zCx p s m args meth c base kd tc D S R cc nL own cn g) {k : Nat} (hd : decode cc pc = .ok (.istore k, n)) (hn : zln (.istore k) n = true) (hR : zR S cn g (.istore k) n pc L st u w Y) (hs : zSt base kd tc D s R nL H locs cells slots ls (pc, L, st, u, w)) (kk : zKK p l e R s m args below meth c Q base kd tc D nL Y) : W p l e R s m args below meth c H locs cells slots Q (F0 m pc ls (st.map (zV base kd))) := by
  obtain ⟨hx, hb, hml, hown, hts, hK, hKon, hbs, hcn, hin, hfr, hlo⟩ := cx
  have hn1 := Nat.eq_of_beq_eq_true hn
  subst hn1
  obtain ⟨x, r, rfl, hk, hp, rfl⟩ := hR
  exact lv_istore hx hb hd hs.1.has (by rw [← hs.1.2.2.1]; exact hk) rfl (fun ls1 h1 => kk H locs cells slots ls1 ⟨zH.put1 rfl hp hs.1.2.2.1 h1, hs.2⟩)
set_option maxHeartbeats 2000000 in
theorem zi_istore_n (cx : zCx p s m args meth c base kd tc D S R cc nL own cn g) {k : Fin 4} (hd : decode cc pc = .ok (.istore_n k, n)) (hn : zln (.istore_n k) n = true) (hR : zR S cn g (.istore_n k) n pc L st u w Y) (hs : zSt base kd tc D s R nL H locs cells slots ls (pc, L, st, u, w)) (kk : zKK p l e R s m args below meth c Q base kd tc D nL Y) : W p l e R s m args below meth c H locs cells slots Q (F0 m pc ls (st.map (zV base kd))) := by
  obtain ⟨hx, hb, hml, hown, hts, hK, hKon, hbs, hcn, hin, hfr, hlo⟩ := cx
  have hn1 := Nat.eq_of_beq_eq_true hn
  subst hn1
  obtain ⟨x, r, rfl, hk, hp, rfl⟩ := hR
  exact lv_istore_n hx hb hd rfl hs.1.has (by rw [← hs.1.2.2.1]; exact hk) rfl (fun ls1 h1 => kk H locs cells slots ls1 ⟨zH.put1 rfl hp hs.1.2.2.1 h1, hs.2⟩)
set_option maxHeartbeats 2000000 in
theorem zi_lstore (cx : zCx p s m args meth c base kd tc D S R cc nL own cn g) {k : Nat} (hd : decode cc pc = .ok (.lstore k, n)) (hn : zln (.lstore k) n = true) (hR : zR S cn g (.lstore k) n pc L st u w Y) (hs : zSt base kd tc D s R nL H locs cells slots ls (pc, L, st, u, w)) (kk : zKK p l e R s m args below meth c Q base kd tc D nL Y) : W p l e R s m args below meth c H locs cells slots Q (F0 m pc ls (st.map (zV base kd))) := by
  obtain ⟨hx, hb, hml, hown, hts, hK, hKon, hbs, hcn, hin, hfr, hlo⟩ := cx
  have hn1 := Nat.eq_of_beq_eq_true hn
  subst hn1
  obtain ⟨x, r, rfl, hk, hp, rfl⟩ := hR
  exact lv_lstore hx hb hd hs.1.has (by rw [← hs.1.2.2.1]; exact hk) rfl (fun ls1 h1 => kk H locs cells slots ls1 ⟨zH.put2 hp hs.1.2.2.1 h1, hs.2⟩)
set_option maxHeartbeats 2000000 in
theorem zi_lstore_n (cx : zCx p s m args meth c base kd tc D S R cc nL own cn g) {k : Fin 4} (hd : decode cc pc = .ok (.lstore_n k, n)) (hn : zln (.lstore_n k) n = true) (hR : zR S cn g (.lstore_n k) n pc L st u w Y) (hs : zSt base kd tc D s R nL H locs cells slots ls (pc, L, st, u, w)) (kk : zKK p l e R s m args below meth c Q base kd tc D nL Y) : W p l e R s m args below meth c H locs cells slots Q (F0 m pc ls (st.map (zV base kd))) := by
  obtain ⟨hx, hb, hml, hown, hts, hK, hKon, hbs, hcn, hin, hfr, hlo⟩ := cx
  have hn1 := Nat.eq_of_beq_eq_true hn
  subst hn1
  obtain ⟨x, r, rfl, hk, hp, rfl⟩ := hR
  exact lv_lstore_n hx hb hd rfl hs.1.has (by rw [← hs.1.2.2.1]; exact hk) rfl (fun ls1 h1 => kk H locs cells slots ls1 ⟨zH.put2 hp hs.1.2.2.1 h1, hs.2⟩)
set_option maxHeartbeats 2000000 in
theorem zi_astore (cx : zCx p s m args meth c base kd tc D S R cc nL own cn g) {k : Nat} (hd : decode cc pc = .ok (.astore k, n)) (hn : zln (.astore k) n = true) (hR : zR S cn g (.astore k) n pc L st u w Y) (hs : zSt base kd tc D s R nL H locs cells slots ls (pc, L, st, u, w)) (kk : zKK p l e R s m args below meth c Q base kd tc D nL Y) : W p l e R s m args below meth c H locs cells slots Q (F0 m pc ls (st.map (zV base kd))) := by
  obtain ⟨hx, hb, hml, hown, hts, hK, hKon, hbs, hcn, hin, hfr, hlo⟩ := cx
  have hn1 := Nat.eq_of_beq_eq_true hn
  subst hn1
  obtain ⟨v, r, rfl, hv, hk, hp, rfl⟩ := hR
  match v, hv with
  | .ref a, _ => exact lv_astore hx hb hd hs.1.has (by rw [← hs.1.2.2.1]; exact hk) rfl (fun ls1 h1 => kk H locs cells slots ls1 ⟨zH.put1 rfl hp hs.1.2.2.1 h1, hs.2⟩)
  | .null, _ => exact lv_astoreN hx hb hd hs.1.has (by rw [← hs.1.2.2.1]; exact hk) rfl (fun ls1 h1 => kk H locs cells slots ls1 ⟨zH.put1 rfl hp hs.1.2.2.1 h1, hs.2⟩)
  | .retAddr q, _ =>
    rw [List.map_cons]
    cases hkq : kd q with
    | none =>
      rw [zV_none hkq]
      exact lv_astoreN hx hb hd hs.1.has (by rw [← hs.1.2.2.1]; exact hk) rfl (fun ls1 h1 => kk H locs cells slots ls1 ⟨zH.put1 (v := .retAddr q) rfl hp hs.1.2.2.1 (by rw [zV_none hkq]; exact h1), hs.2⟩)
    | some a =>
      rw [zV_const hkq]
      exact lv_astore hx hb hd hs.1.has (by rw [← hs.1.2.2.1]; exact hk) rfl (fun ls1 h1 => kk H locs cells slots ls1 ⟨zH.put1 (v := .retAddr q) rfl hp hs.1.2.2.1 (by rw [zV_const hkq]; exact h1), hs.2⟩)
set_option maxHeartbeats 2000000 in
theorem zi_astore_n (cx : zCx p s m args meth c base kd tc D S R cc nL own cn g) {k : Fin 4} (hd : decode cc pc = .ok (.astore_n k, n)) (hn : zln (.astore_n k) n = true) (hR : zR S cn g (.astore_n k) n pc L st u w Y) (hs : zSt base kd tc D s R nL H locs cells slots ls (pc, L, st, u, w)) (kk : zKK p l e R s m args below meth c Q base kd tc D nL Y) : W p l e R s m args below meth c H locs cells slots Q (F0 m pc ls (st.map (zV base kd))) := by
  obtain ⟨hx, hb, hml, hown, hts, hK, hKon, hbs, hcn, hin, hfr, hlo⟩ := cx
  have hn1 := Nat.eq_of_beq_eq_true hn
  subst hn1
  obtain ⟨v, r, rfl, hv, hk, hp, rfl⟩ := hR
  match v, hv with
  | .ref a, _ => exact lv_astore_n hx hb hd rfl hs.1.has (by rw [← hs.1.2.2.1]; exact hk) rfl (fun ls1 h1 => kk H locs cells slots ls1 ⟨zH.put1 rfl hp hs.1.2.2.1 h1, hs.2⟩)
  | .null, _ => exact lv_astore_nN hx hb hd rfl hs.1.has (by rw [← hs.1.2.2.1]; exact hk) rfl (fun ls1 h1 => kk H locs cells slots ls1 ⟨zH.put1 rfl hp hs.1.2.2.1 h1, hs.2⟩)
  | .retAddr q, _ =>
    rw [List.map_cons]
    cases hkq : kd q with
    | none =>
      rw [zV_none hkq]
      exact lv_astore_nN hx hb hd rfl hs.1.has (by rw [← hs.1.2.2.1]; exact hk) rfl (fun ls1 h1 => kk H locs cells slots ls1 ⟨zH.put1 (v := .retAddr q) rfl hp hs.1.2.2.1 (by rw [zV_none hkq]; exact h1), hs.2⟩)
    | some a =>
      rw [zV_const hkq]
      exact lv_astore_n hx hb hd rfl hs.1.has (by rw [← hs.1.2.2.1]; exact hk) rfl (fun ls1 h1 => kk H locs cells slots ls1 ⟨zH.put1 (v := .retAddr q) rfl hp hs.1.2.2.1 (by rw [zV_const hkq]; exact h1), hs.2⟩)
set_option maxHeartbeats 2000000 in
theorem zi_iinc (cx : zCx p s m args meth c base kd tc D S R cc nL own cn g) {k : Nat} {z : Int} (hd : decode cc pc = .ok (.iinc k z, n)) (hn : zln (.iinc k z) n = true) (hR : zR S cn g (.iinc k z) n pc L st u w Y) (hs : zSt base kd tc D s R nL H locs cells slots ls (pc, L, st, u, w)) (kk : zKK p l e R s m args below meth c Q base kd tc D nL Y) : W p l e R s m args below meth c H locs cells slots Q (F0 m pc ls (st.map (zV base kd))) := by
  obtain ⟨hx, hb, hml, hown, hts, hK, hKon, hbs, hcn, hin, hfr, hlo⟩ := cx
  have hn1 := Nat.eq_of_beq_eq_true hn
  subst hn1
  obtain ⟨x, h0, hp, rfl⟩ := hR
  obtain ⟨j, hj⟩ := List.getElem?_of_mem (zpr_mem (base := base) (kd := kd) (L := L) (q := (k, .int x)).mpr ⟨_, h0, rfl⟩)
  exact lv_iinc hx hb hd hs.1.has hj rfl (by rw [← hs.1.2.2.1]; exact zat_lt h0) rfl (fun ls1 h1 => kk H locs cells slots ls1 ⟨zH.put1 rfl hp hs.1.2.2.1 h1, hs.2⟩)
set_option maxHeartbeats 2000000 in
theorem zi_iadd (cx : zCx p s m args meth c base kd tc D S R cc nL own cn g) (hd : decode cc pc = .ok (.iadd, n)) (hn : zln (.iadd) n = true) (hR : zR S cn g (.iadd) n pc L st u w Y) (hs : zSt base kd tc D s R nL H locs cells slots ls (pc, L, st, u, w)) (kk : zKK p l e R s m args below meth c Q base kd tc D nL Y) : W p l e R s m args below meth c H locs cells slots Q (F0 m pc ls (st.map (zV base kd))) := by
  obtain ⟨hx, hb, hml, hown, hts, hK, hKon, hbs, hcn, hin, hfr, hlo⟩ := cx
  have hn1 := Nat.eq_of_beq_eq_true hn
  subst hn1
  obtain ⟨x, y, r, rfl, rfl⟩ := hR
  exact lv_iadd hx hb hd (kk H locs cells slots ls hs)
set_option maxHeartbeats 2000000 in
theorem zi_isub (cx : zCx p s m args meth c base kd tc D S R cc nL own cn g) (hd : decode cc pc = .ok (.isub, n)) (hn : zln (.isub) n = true) (hR : zR S cn g (.isub) n pc L st u w Y) (hs : zSt base kd tc D s R nL H locs cells slots ls (pc, L, st, u, w)) (kk : zKK p l e R s m args below meth c Q base kd tc D nL Y) : W p l e R s m args below meth c H locs cells slots Q (F0 m pc ls (st.map (zV base kd))) := by
  obtain ⟨hx, hb, hml, hown, hts, hK, hKon, hbs, hcn, hin, hfr, hlo⟩ := cx
  have hn1 := Nat.eq_of_beq_eq_true hn
  subst hn1
  obtain ⟨x, y, r, rfl, rfl⟩ := hR
  exact lv_isub hx hb hd (kk H locs cells slots ls hs)
set_option maxHeartbeats 2000000 in
theorem zi_imul (cx : zCx p s m args meth c base kd tc D S R cc nL own cn g) (hd : decode cc pc = .ok (.imul, n)) (hn : zln (.imul) n = true) (hR : zR S cn g (.imul) n pc L st u w Y) (hs : zSt base kd tc D s R nL H locs cells slots ls (pc, L, st, u, w)) (kk : zKK p l e R s m args below meth c Q base kd tc D nL Y) : W p l e R s m args below meth c H locs cells slots Q (F0 m pc ls (st.map (zV base kd))) := by
  obtain ⟨hx, hb, hml, hown, hts, hK, hKon, hbs, hcn, hin, hfr, hlo⟩ := cx
  have hn1 := Nat.eq_of_beq_eq_true hn
  subst hn1
  obtain ⟨x, y, r, rfl, rfl⟩ := hR
  exact lv_imul hx hb hd (kk H locs cells slots ls hs)
set_option maxHeartbeats 2000000 in
theorem zi_iand (cx : zCx p s m args meth c base kd tc D S R cc nL own cn g) (hd : decode cc pc = .ok (.iand, n)) (hn : zln (.iand) n = true) (hR : zR S cn g (.iand) n pc L st u w Y) (hs : zSt base kd tc D s R nL H locs cells slots ls (pc, L, st, u, w)) (kk : zKK p l e R s m args below meth c Q base kd tc D nL Y) : W p l e R s m args below meth c H locs cells slots Q (F0 m pc ls (st.map (zV base kd))) := by
  obtain ⟨hx, hb, hml, hown, hts, hK, hKon, hbs, hcn, hin, hfr, hlo⟩ := cx
  have hn1 := Nat.eq_of_beq_eq_true hn
  subst hn1
  obtain ⟨x, y, r, rfl, rfl⟩ := hR
  exact lv_iand hx hb hd (kk H locs cells slots ls hs)
set_option maxHeartbeats 2000000 in
theorem zi_ior (cx : zCx p s m args meth c base kd tc D S R cc nL own cn g) (hd : decode cc pc = .ok (.ior, n)) (hn : zln (.ior) n = true) (hR : zR S cn g (.ior) n pc L st u w Y) (hs : zSt base kd tc D s R nL H locs cells slots ls (pc, L, st, u, w)) (kk : zKK p l e R s m args below meth c Q base kd tc D nL Y) : W p l e R s m args below meth c H locs cells slots Q (F0 m pc ls (st.map (zV base kd))) := by
  obtain ⟨hx, hb, hml, hown, hts, hK, hKon, hbs, hcn, hin, hfr, hlo⟩ := cx
  have hn1 := Nat.eq_of_beq_eq_true hn
  subst hn1
  obtain ⟨x, y, r, rfl, rfl⟩ := hR
  exact lv_ior hx hb hd (kk H locs cells slots ls hs)
set_option maxHeartbeats 2000000 in
theorem zi_ixor (cx : zCx p s m args meth c base kd tc D S R cc nL own cn g) (hd : decode cc pc = .ok (.ixor, n)) (hn : zln (.ixor) n = true) (hR : zR S cn g (.ixor) n pc L st u w Y) (hs : zSt base kd tc D s R nL H locs cells slots ls (pc, L, st, u, w)) (kk : zKK p l e R s m args below meth c Q base kd tc D nL Y) : W p l e R s m args below meth c H locs cells slots Q (F0 m pc ls (st.map (zV base kd))) := by
  obtain ⟨hx, hb, hml, hown, hts, hK, hKon, hbs, hcn, hin, hfr, hlo⟩ := cx
  have hn1 := Nat.eq_of_beq_eq_true hn
  subst hn1
  obtain ⟨x, y, r, rfl, rfl⟩ := hR
  exact lv_ixor hx hb hd (kk H locs cells slots ls hs)
set_option maxHeartbeats 2000000 in
theorem zi_ishl (cx : zCx p s m args meth c base kd tc D S R cc nL own cn g) (hd : decode cc pc = .ok (.ishl, n)) (hn : zln (.ishl) n = true) (hR : zR S cn g (.ishl) n pc L st u w Y) (hs : zSt base kd tc D s R nL H locs cells slots ls (pc, L, st, u, w)) (kk : zKK p l e R s m args below meth c Q base kd tc D nL Y) : W p l e R s m args below meth c H locs cells slots Q (F0 m pc ls (st.map (zV base kd))) := by
  obtain ⟨hx, hb, hml, hown, hts, hK, hKon, hbs, hcn, hin, hfr, hlo⟩ := cx
  have hn1 := Nat.eq_of_beq_eq_true hn
  subst hn1
  obtain ⟨x, y, r, rfl, rfl⟩ := hR
  exact lv_ishl hx hb hd (kk H locs cells slots ls hs)
set_option maxHeartbeats 2000000 in
theorem zi_ishr (cx : zCx p s m args meth c base kd tc D S R cc nL own cn g) (hd : decode cc pc = .ok (.ishr, n)) (hn : zln (.ishr) n = true) (hR : zR S cn g (.ishr) n pc L st u w Y) (hs : zSt base kd tc D s R nL H locs cells slots ls (pc, L, st, u, w)) (kk : zKK p l e R s m args below meth c Q base kd tc D nL Y) : W p l e R s m args below meth c H locs cells slots Q (F0 m pc ls (st.map (zV base kd))) := by
  obtain ⟨hx, hb, hml, hown, hts, hK, hKon, hbs, hcn, hin, hfr, hlo⟩ := cx
  have hn1 := Nat.eq_of_beq_eq_true hn
  subst hn1
  obtain ⟨x, y, r, rfl, rfl⟩ := hR
  exact lv_ishr hx hb hd (kk H locs cells slots ls hs)
set_option maxHeartbeats 2000000 in
theorem zi_ladd (cx : zCx p s m args meth c base kd tc D S R cc nL own cn g) (hd : decode cc pc = .ok (.ladd, n)) (hn : zln (.ladd) n = true) (hR : zR S cn g (.ladd) n pc L st u w Y) (hs : zSt base kd tc D s R nL H locs cells slots ls (pc, L, st, u, w)) (kk : zKK p l e R s m args below meth c Q base kd tc D nL Y) : W p l e R s m args below meth c H locs cells slots Q (F0 m pc ls (st.map (zV base kd))) := by
  obtain ⟨hx, hb, hml, hown, hts, hK, hKon, hbs, hcn, hin, hfr, hlo⟩ := cx
  have hn1 := Nat.eq_of_beq_eq_true hn
  subst hn1
  obtain ⟨x, y, r, rfl, rfl⟩ := hR
  exact lv_ladd hx hb hd (kk H locs cells slots ls hs)
set_option maxHeartbeats 2000000 in
theorem zi_lsub (cx : zCx p s m args meth c base kd tc D S R cc nL own cn g) (hd : decode cc pc = .ok (.lsub, n)) (hn : zln (.lsub) n = true) (hR : zR S cn g (.lsub) n pc L st u w Y) (hs : zSt base kd tc D s R nL H locs cells slots ls (pc, L, st, u, w)) (kk : zKK p l e R s m args below meth c Q base kd tc D nL Y) : W p l e R s m args below meth c H locs cells slots Q (F0 m pc ls (st.map (zV base kd))) := by
  obtain ⟨hx, hb, hml, hown, hts, hK, hKon, hbs, hcn, hin, hfr, hlo⟩ := cx
  have hn1 := Nat.eq_of_beq_eq_true hn
  subst hn1
  obtain ⟨x, y, r, rfl, rfl⟩ := hR
  exact lv_lsub hx hb hd (kk H locs cells slots ls hs)
set_option maxHeartbeats 2000000 in
theorem zi_lmul (cx : zCx p s m args meth c base kd tc D S R cc nL own cn g) (hd : decode cc pc = .ok (.lmul, n)) (hn : zln (.lmul) n = true) (hR : zR S cn g (.lmul) n pc L st u w Y) (hs : zSt base kd tc D s R nL H locs cells slots ls (pc, L, st, u, w)) (kk : zKK p l e R s m args below meth c Q base kd tc D nL Y) : W p l e R s m args below meth c H locs cells slots Q (F0 m pc ls (st.map (zV base kd))) := by
  obtain ⟨hx, hb, hml, hown, hts, hK, hKon, hbs, hcn, hin, hfr, hlo⟩ := cx
  have hn1 := Nat.eq_of_beq_eq_true hn
  subst hn1
  obtain ⟨x, y, r, rfl, rfl⟩ := hR
  exact lv_lmul hx hb hd (kk H locs cells slots ls hs)
set_option maxHeartbeats 2000000 in
theorem zi_land (cx : zCx p s m args meth c base kd tc D S R cc nL own cn g) (hd : decode cc pc = .ok (.land, n)) (hn : zln (.land) n = true) (hR : zR S cn g (.land) n pc L st u w Y) (hs : zSt base kd tc D s R nL H locs cells slots ls (pc, L, st, u, w)) (kk : zKK p l e R s m args below meth c Q base kd tc D nL Y) : W p l e R s m args below meth c H locs cells slots Q (F0 m pc ls (st.map (zV base kd))) := by
  obtain ⟨hx, hb, hml, hown, hts, hK, hKon, hbs, hcn, hin, hfr, hlo⟩ := cx
  have hn1 := Nat.eq_of_beq_eq_true hn
  subst hn1
  obtain ⟨x, y, r, rfl, rfl⟩ := hR
  exact lv_land hx hb hd (kk H locs cells slots ls hs)
set_option maxHeartbeats 2000000 in
theorem zi_lor (cx : zCx p s m args meth c base kd tc D S R cc nL own cn g) (hd : decode cc pc = .ok (.lor, n)) (hn : zln (.lor) n = true) (hR : zR S cn g (.lor) n pc L st u w Y) (hs : zSt base kd tc D s R nL H locs cells slots ls (pc, L, st, u, w)) (kk : zKK p l e R s m args below meth c Q base kd tc D nL Y) : W p l e R s m args below meth c H locs cells slots Q (F0 m pc ls (st.map (zV base kd))) := by
  obtain ⟨hx, hb, hml, hown, hts, hK, hKon, hbs, hcn, hin, hfr, hlo⟩ := cx
  have hn1 := Nat.eq_of_beq_eq_true hn
  subst hn1
  obtain ⟨x, y, r, rfl, rfl⟩ := hR
  exact lv_lor hx hb hd (kk H locs cells slots ls hs)
set_option maxHeartbeats 2000000 in
theorem zi_iushr (cx : zCx p s m args meth c base kd tc D S R cc nL own cn g) (hd : decode cc pc = .ok (.iushr, n)) (hn : zln (.iushr) n = true) (hR : zR S cn g (.iushr) n pc L st u w Y) (hs : zSt base kd tc D s R nL H locs cells slots ls (pc, L, st, u, w)) (kk : zKK p l e R s m args below meth c Q base kd tc D nL Y) : W p l e R s m args below meth c H locs cells slots Q (F0 m pc ls (st.map (zV base kd))) := by
  obtain ⟨hx, hb, hml, hown, hts, hK, hKon, hbs, hcn, hin, hfr, hlo⟩ := cx
  have hn1 := Nat.eq_of_beq_eq_true hn
  subst hn1
  obtain ⟨x, y, r, rfl, rfl⟩ := hR
  exact lv_iushr hx hb hd rfl (kk H locs cells slots ls hs)
set_option maxHeartbeats 2000000 in
theorem zi_lshl (cx : zCx p s m args meth c base kd tc D S R cc nL own cn g) (hd : decode cc pc = .ok (.lshl, n)) (hn : zln (.lshl) n = true) (hR : zR S cn g (.lshl) n pc L st u w Y) (hs : zSt base kd tc D s R nL H locs cells slots ls (pc, L, st, u, w)) (kk : zKK p l e R s m args below meth c Q base kd tc D nL Y) : W p l e R s m args below meth c H locs cells slots Q (F0 m pc ls (st.map (zV base kd))) := by
  obtain ⟨hx, hb, hml, hown, hts, hK, hKon, hbs, hcn, hin, hfr, hlo⟩ := cx
  have hn1 := Nat.eq_of_beq_eq_true hn
  subst hn1
  obtain ⟨x, y, r, rfl, rfl⟩ := hR
  exact lv_lshl hx hb hd rfl (kk H locs cells slots ls hs)
set_option maxHeartbeats 2000000 in
theorem zi_lshr (cx : zCx p s m args meth c base kd tc D S R cc nL own cn g) (hd : decode cc pc = .ok (.lshr, n)) (hn : zln (.lshr) n = true) (hR : zR S cn g (.lshr) n pc L st u w Y) (hs : zSt base kd tc D s R nL H locs cells slots ls (pc, L, st, u, w)) (kk : zKK p l e R s m args below meth c Q base kd tc D nL Y) : W p l e R s m args below meth c H locs cells slots Q (F0 m pc ls (st.map (zV base kd))) := by
  obtain ⟨hx, hb, hml, hown, hts, hK, hKon, hbs, hcn, hin, hfr, hlo⟩ := cx
  have hn1 := Nat.eq_of_beq_eq_true hn
  subst hn1
  obtain ⟨x, y, r, rfl, rfl⟩ := hR
  exact lv_lshr hx hb hd rfl (kk H locs cells slots ls hs)
set_option maxHeartbeats 2000000 in
theorem zi_lushr (cx : zCx p s m args meth c base kd tc D S R cc nL own cn g) (hd : decode cc pc = .ok (.lushr, n)) (hn : zln (.lushr) n = true) (hR : zR S cn g (.lushr) n pc L st u w Y) (hs : zSt base kd tc D s R nL H locs cells slots ls (pc, L, st, u, w)) (kk : zKK p l e R s m args below meth c Q base kd tc D nL Y) : W p l e R s m args below meth c H locs cells slots Q (F0 m pc ls (st.map (zV base kd))) := by
  obtain ⟨hx, hb, hml, hown, hts, hK, hKon, hbs, hcn, hin, hfr, hlo⟩ := cx
  have hn1 := Nat.eq_of_beq_eq_true hn
  subst hn1
  obtain ⟨x, y, r, rfl, rfl⟩ := hR
  exact lv_lushr hx hb hd rfl (kk H locs cells slots ls hs)
set_option maxHeartbeats 2000000 in
theorem zi_lcmp (cx : zCx p s m args meth c base kd tc D S R cc nL own cn g) (hd : decode cc pc = .ok (.lcmp, n)) (hn : zln (.lcmp) n = true) (hR : zR S cn g (.lcmp) n pc L st u w Y) (hs : zSt base kd tc D s R nL H locs cells slots ls (pc, L, st, u, w)) (kk : zKK p l e R s m args below meth c Q base kd tc D nL Y) : W p l e R s m args below meth c H locs cells slots Q (F0 m pc ls (st.map (zV base kd))) := by
  obtain ⟨hx, hb, hml, hown, hts, hK, hKon, hbs, hcn, hin, hfr, hlo⟩ := cx
  have hn1 := Nat.eq_of_beq_eq_true hn
  subst hn1
  obtain ⟨x, y, r, rfl, rfl⟩ := hR
  exact W.lcmp hx hb hd (kk H locs cells slots ls hs)
set_option maxHeartbeats 2000000 in
theorem zi_idiv (cx : zCx p s m args meth c base kd tc D S R cc nL own cn g) (hd : decode cc pc = .ok (.idiv, n)) (hn : zln (.idiv) n = true) (hR : zR S cn g (.idiv) n pc L st u w Y) (hs : zSt base kd tc D s R nL H locs cells slots ls (pc, L, st, u, w)) (kk : zKK p l e R s m args below meth c Q base kd tc D nL Y) : W p l e R s m args below meth c H locs cells slots Q (F0 m pc ls (st.map (zV base kd))) := by
  obtain ⟨hx, hb, hml, hown, hts, hK, hKon, hbs, hcn, hin, hfr, hlo⟩ := cx
  have hn1 := Nat.eq_of_beq_eq_true hn
  subst hn1
  obtain ⟨x, y, r, rfl, h0, rfl⟩ := hR
  exact lv_idiv hx hb hd h0 (kk H locs cells slots ls hs)
set_option maxHeartbeats 2000000 in
theorem zi_irem (cx : zCx p s m args meth c base kd tc D S R cc nL own cn g) (hd : decode cc pc = .ok (.irem, n)) (hn : zln (.irem) n = true) (hR : zR S cn g (.irem) n pc L st u w Y) (hs : zSt base kd tc D s R nL H locs cells slots ls (pc, L, st, u, w)) (kk : zKK p l e R s m args below meth c Q base kd tc D nL Y) : W p l e R s m args below meth c H locs cells slots Q (F0 m pc ls (st.map (zV base kd))) := by
  obtain ⟨hx, hb, hml, hown, hts, hK, hKon, hbs, hcn, hin, hfr, hlo⟩ := cx
  have hn1 := Nat.eq_of_beq_eq_true hn
  subst hn1
  obtain ⟨x, y, r, rfl, h0, rfl⟩ := hR
  exact lv_irem hx hb hd h0 (kk H locs cells slots ls hs)
set_option maxHeartbeats 2000000 in
theorem zi_i2l (cx : zCx p s m args meth c base kd tc D S R cc nL own cn g) (hd : decode cc pc = .ok (.i2l, n)) (hn : zln (.i2l) n = true) (hR : zR S cn g (.i2l) n pc L st u w Y) (hs : zSt base kd tc D s R nL H locs cells slots ls (pc, L, st, u, w)) (kk : zKK p l e R s m args below meth c Q base kd tc D nL Y) : W p l e R s m args below meth c H locs cells slots Q (F0 m pc ls (st.map (zV base kd))) := by
  obtain ⟨hx, hb, hml, hown, hts, hK, hKon, hbs, hcn, hin, hfr, hlo⟩ := cx
  have hn1 := Nat.eq_of_beq_eq_true hn
  subst hn1
  obtain ⟨x, r, rfl, rfl⟩ := hR
  exact lv_i2l hx hb hd rfl (kk H locs cells slots ls hs)
set_option maxHeartbeats 2000000 in
theorem zi_l2i (cx : zCx p s m args meth c base kd tc D S R cc nL own cn g) (hd : decode cc pc = .ok (.l2i, n)) (hn : zln (.l2i) n = true) (hR : zR S cn g (.l2i) n pc L st u w Y) (hs : zSt base kd tc D s R nL H locs cells slots ls (pc, L, st, u, w)) (kk : zKK p l e R s m args below meth c Q base kd tc D nL Y) : W p l e R s m args below meth c H locs cells slots Q (F0 m pc ls (st.map (zV base kd))) := by
  obtain ⟨hx, hb, hml, hown, hts, hK, hKon, hbs, hcn, hin, hfr, hlo⟩ := cx
  have hn1 := Nat.eq_of_beq_eq_true hn
  subst hn1
  obtain ⟨x, r, rfl, rfl⟩ := hR
  exact lv_l2i hx hb hd rfl (kk H locs cells slots ls hs)
set_option maxHeartbeats 2000000 in
theorem zi_i2b (cx : zCx p s m args meth c base kd tc D S R cc nL own cn g) (hd : decode cc pc = .ok (.i2b, n)) (hn : zln (.i2b) n = true) (hR : zR S cn g (.i2b) n pc L st u w Y) (hs : zSt base kd tc D s R nL H locs cells slots ls (pc, L, st, u, w)) (kk : zKK p l e R s m args below meth c Q base kd tc D nL Y) : W p l e R s m args below meth c H locs cells slots Q (F0 m pc ls (st.map (zV base kd))) := by
  obtain ⟨hx, hb, hml, hown, hts, hK, hKon, hbs, hcn, hin, hfr, hlo⟩ := cx
  have hn1 := Nat.eq_of_beq_eq_true hn
  subst hn1
  obtain ⟨x, r, rfl, rfl⟩ := hR
  exact lv_i2b hx hb hd rfl (kk H locs cells slots ls hs)
set_option maxHeartbeats 2000000 in
theorem zi_i2s (cx : zCx p s m args meth c base kd tc D S R cc nL own cn g) (hd : decode cc pc = .ok (.i2s, n)) (hn : zln (.i2s) n = true) (hR : zR S cn g (.i2s) n pc L st u w Y) (hs : zSt base kd tc D s R nL H locs cells slots ls (pc, L, st, u, w)) (kk : zKK p l e R s m args below meth c Q base kd tc D nL Y) : W p l e R s m args below meth c H locs cells slots Q (F0 m pc ls (st.map (zV base kd))) := by
  obtain ⟨hx, hb, hml, hown, hts, hK, hKon, hbs, hcn, hin, hfr, hlo⟩ := cx
  have hn1 := Nat.eq_of_beq_eq_true hn
  subst hn1
  obtain ⟨x, r, rfl, rfl⟩ := hR
  exact lv_i2s hx hb hd rfl (kk H locs cells slots ls hs)
set_option maxHeartbeats 2000000 in
theorem zi_i2c (cx : zCx p s m args meth c base kd tc D S R cc nL own cn g) (hd : decode cc pc = .ok (.i2c, n)) (hn : zln (.i2c) n = true) (hR : zR S cn g (.i2c) n pc L st u w Y) (hs : zSt base kd tc D s R nL H locs cells slots ls (pc, L, st, u, w)) (kk : zKK p l e R s m args below meth c Q base kd tc D nL Y) : W p l e R s m args below meth c H locs cells slots Q (F0 m pc ls (st.map (zV base kd))) := by
  obtain ⟨hx, hb, hml, hown, hts, hK, hKon, hbs, hcn, hin, hfr, hlo⟩ := cx
  have hn1 := Nat.eq_of_beq_eq_true hn
  subst hn1
  obtain ⟨x, r, rfl, rfl⟩ := hR
  exact lv_i2c hx hb hd rfl (kk H locs cells slots ls hs)
set_option maxHeartbeats 2000000 in
theorem zi_dup (cx : zCx p s m args meth c base kd tc D S R cc nL own cn g) (hd : decode cc pc = .ok (.dup, n)) (hn : zln (.dup) n = true) (hR : zR S cn g (.dup) n pc L st u w Y) (hs : zSt base kd tc D s R nL H locs cells slots ls (pc, L, st, u, w)) (kk : zKK p l e R s m args below meth c Q base kd tc D nL Y) : W p l e R s m args below meth c H locs cells slots Q (F0 m pc ls (st.map (zV base kd))) := by
  obtain ⟨hx, hb, hml, hown, hts, hK, hKon, hbs, hcn, hin, hfr, hlo⟩ := cx
  have hn1 := Nat.eq_of_beq_eq_true hn
  subst hn1
  obtain ⟨v, r, rfl, hv, rfl⟩ := hR
  exact lv_dup hx hb hd (by rw [zV_cat]; exact hv) (kk H locs cells slots ls hs)
set_option maxHeartbeats 2000000 in
theorem zi_pop (cx : zCx p s m args meth c base kd tc D S R cc nL own cn g) (hd : decode cc pc = .ok (.pop, n)) (hn : zln (.pop) n = true) (hR : zR S cn g (.pop) n pc L st u w Y) (hs : zSt base kd tc D s R nL H locs cells slots ls (pc, L, st, u, w)) (kk : zKK p l e R s m args below meth c Q base kd tc D nL Y) : W p l e R s m args below meth c H locs cells slots Q (F0 m pc ls (st.map (zV base kd))) := by
  obtain ⟨hx, hb, hml, hown, hts, hK, hKon, hbs, hcn, hin, hfr, hlo⟩ := cx
  have hn1 := Nat.eq_of_beq_eq_true hn
  subst hn1
  obtain ⟨v, r, rfl, hv, rfl⟩ := hR
  exact lv_pop hx hb hd (by rw [zV_cat]; exact hv) (kk H locs cells slots ls hs)
set_option maxHeartbeats 2000000 in
theorem zi_dup2 (cx : zCx p s m args meth c base kd tc D S R cc nL own cn g) (hd : decode cc pc = .ok (.dup2, n)) (hn : zln (.dup2) n = true) (hR : zR S cn g (.dup2) n pc L st u w Y) (hs : zSt base kd tc D s R nL H locs cells slots ls (pc, L, st, u, w)) (kk : zKK p l e R s m args below meth c Q base kd tc D nL Y) : W p l e R s m args below meth c H locs cells slots Q (F0 m pc ls (st.map (zV base kd))) := by
  obtain ⟨hx, hb, hml, hown, hts, hK, hKon, hbs, hcn, hin, hfr, hlo⟩ := cx
  have hn1 := Nat.eq_of_beq_eq_true hn
  subst hn1
  obtain ⟨v, v2, r, rfl, hv, hv2, rfl⟩ := hR
  exact lv_dup2_11 hx hb hd (by rw [zV_cat]; exact hv) (by rw [zV_cat]; exact hv2) (kk H locs cells slots ls hs)
set_option maxHeartbeats 2000000 in
theorem zi_goto (cx : zCx p s m args meth c base kd tc D S R cc nL own cn g) {off : Int} (hd : decode cc pc = .ok (.goto off, n)) (hn : zln (.goto off) n = true) (hR : zR S cn g (.goto off) n pc L st u w Y) (hs : zSt base kd tc D s R nL H locs cells slots ls (pc, L, st, u, w)) (kk : zKK p l e R s m args below meth c Q base kd tc D nL Y) : W p l e R s m args below meth c H locs cells slots Q (F0 m pc ls (st.map (zV base kd))) := by
  obtain ⟨hx, hb, hml, hown, hts, hK, hKon, hbs, hcn, hin, hfr, hlo⟩ := cx
  have hn1 := Nat.eq_of_beq_eq_true hn
  subst hn1
  obtain ⟨t, ht, rfl⟩ := hR
  exact lv_goto hx hb hd ht (kk H locs cells slots ls hs)
set_option maxHeartbeats 2000000 in
theorem zi_ifCond (cx : zCx p s m args meth c base kd tc D S R cc nL own cn g) {cd : ClassFile.Cond} {off : Int} (hd : decode cc pc = .ok (.ifCond cd off, n)) (hn : zln (.ifCond cd off) n = true) (hR : zR S cn g (.ifCond cd off) n pc L st u w Y) (hs : zSt base kd tc D s R nL H locs cells slots ls (pc, L, st, u, w)) (kk : zKK p l e R s m args below meth c Q base kd tc D nL Y) : W p l e R s m args below meth c H locs cells slots Q (F0 m pc ls (st.map (zV base kd))) := by
  obtain ⟨hx, hb, hml, hown, hts, hK, hKon, hbs, hcn, hin, hfr, hlo⟩ := cx
  have hn1 := Nat.eq_of_beq_eq_true hn
  subst hn1
  obtain ⟨t, x, r, ht, rfl, h⟩ := hR
  cases cd with
  | eq =>
    rcases h with ⟨hc, rfl⟩ | ⟨hc, rfl⟩
    · exact lv_if_eq hx hb hd ht (fun _ => (kk H locs cells slots ls hs)) (fun h1 => absurd hc h1)
    · exact lv_if_eq hx hb hd ht (fun h1 => absurd h1 hc) (fun _ => (kk H locs cells slots ls hs))
  | ne =>
    rcases h with ⟨hc, rfl⟩ | ⟨hc, rfl⟩
    · exact lv_if_ne hx hb hd ht (fun _ => (kk H locs cells slots ls hs)) (fun h1 => absurd h1 hc)
    · exact lv_if_ne hx hb hd ht (fun h1 => absurd hc h1) (fun _ => (kk H locs cells slots ls hs))
  | lt =>
    rcases h with ⟨hc, rfl⟩ | ⟨hc, rfl⟩
    · exact lv_if_lt hx hb hd ht (fun _ => (kk H locs cells slots ls hs)) (fun h1 => absurd hc h1)
    · exact lv_if_lt hx hb hd ht (fun h1 => absurd h1 hc) (fun _ => (kk H locs cells slots ls hs))
  | ge =>
    rcases h with ⟨hc, rfl⟩ | ⟨hc, rfl⟩
    · exact lv_if_ge hx hb hd ht (fun _ => (kk H locs cells slots ls hs)) (fun h1 => absurd hc h1)
    · exact lv_if_ge hx hb hd ht (fun h1 => absurd h1 hc) (fun _ => (kk H locs cells slots ls hs))
  | gt =>
    rcases h with ⟨hc, rfl⟩ | ⟨hc, rfl⟩
    · exact lv_if_gt hx hb hd ht (fun _ => (kk H locs cells slots ls hs)) (fun h1 => absurd hc h1)
    · exact lv_if_gt hx hb hd ht (fun h1 => absurd h1 hc) (fun _ => (kk H locs cells slots ls hs))
  | le =>
    rcases h with ⟨hc, rfl⟩ | ⟨hc, rfl⟩
    · exact lv_if_le hx hb hd ht (fun _ => (kk H locs cells slots ls hs)) (fun h1 => absurd hc h1)
    · exact lv_if_le hx hb hd ht (fun h1 => absurd h1 hc) (fun _ => (kk H locs cells slots ls hs))
set_option maxHeartbeats 2000000 in
theorem zi_if_icmp (cx : zCx p s m args meth c base kd tc D S R cc nL own cn g) {cd : ClassFile.Cond} {off : Int} (hd : decode cc pc = .ok (.if_icmp cd off, n)) (hn : zln (.if_icmp cd off) n = true) (hR : zR S cn g (.if_icmp cd off) n pc L st u w Y) (hs : zSt base kd tc D s R nL H locs cells slots ls (pc, L, st, u, w)) (kk : zKK p l e R s m args below meth c Q base kd tc D nL Y) : W p l e R s m args below meth c H locs cells slots Q (F0 m pc ls (st.map (zV base kd))) := by
  obtain ⟨hx, hb, hml, hown, hts, hK, hKon, hbs, hcn, hin, hfr, hlo⟩ := cx
  have hn1 := Nat.eq_of_beq_eq_true hn
  subst hn1
  obtain ⟨t, x, y, r, ht, rfl, h⟩ := hR
  cases cd with
  | eq =>
    rcases h with ⟨hc, rfl⟩ | ⟨hc, rfl⟩
    · exact lv_icmp_eq hx hb hd ht (fun _ => (kk H locs cells slots ls hs)) (fun h1 => absurd hc h1)
    · exact lv_icmp_eq hx hb hd ht (fun h1 => absurd h1 hc) (fun _ => (kk H locs cells slots ls hs))
  | ne =>
    rcases h with ⟨hc, rfl⟩ | ⟨hc, rfl⟩
    · exact lv_icmp_ne hx hb hd ht (fun _ => (kk H locs cells slots ls hs)) (fun h1 => absurd h1 hc)
    · exact lv_icmp_ne hx hb hd ht (fun h1 => absurd hc h1) (fun _ => (kk H locs cells slots ls hs))
  | lt =>
    rcases h with ⟨hc, rfl⟩ | ⟨hc, rfl⟩
    · exact lv_icmp_lt hx hb hd ht (fun _ => (kk H locs cells slots ls hs)) (fun h1 => absurd hc h1)
    · exact lv_icmp_lt hx hb hd ht (fun h1 => absurd h1 hc) (fun _ => (kk H locs cells slots ls hs))
  | ge =>
    rcases h with ⟨hc, rfl⟩ | ⟨hc, rfl⟩
    · exact lv_icmp_ge hx hb hd ht (fun _ => (kk H locs cells slots ls hs)) (fun h1 => absurd hc h1)
    · exact lv_icmp_ge hx hb hd ht (fun h1 => absurd h1 hc) (fun _ => (kk H locs cells slots ls hs))
  | gt =>
    rcases h with ⟨hc, rfl⟩ | ⟨hc, rfl⟩
    · exact lv_icmp_gt hx hb hd ht (fun _ => (kk H locs cells slots ls hs)) (fun h1 => absurd hc h1)
    · exact lv_icmp_gt hx hb hd ht (fun h1 => absurd h1 hc) (fun _ => (kk H locs cells slots ls hs))
  | le =>
    rcases h with ⟨hc, rfl⟩ | ⟨hc, rfl⟩
    · exact lv_icmp_le hx hb hd ht (fun _ => (kk H locs cells slots ls hs)) (fun h1 => absurd hc h1)
    · exact lv_icmp_le hx hb hd ht (fun h1 => absurd h1 hc) (fun _ => (kk H locs cells slots ls hs))
set_option maxHeartbeats 2000000 in
theorem zi_ifnull (cx : zCx p s m args meth c base kd tc D S R cc nL own cn g) {off : Int} (hd : decode cc pc = .ok (.ifnull off, n)) (hn : zln (.ifnull off) n = true) (hR : zR S cn g (.ifnull off) n pc L st u w Y) (hs : zSt base kd tc D s R nL H locs cells slots ls (pc, L, st, u, w)) (kk : zKK p l e R s m args below meth c Q base kd tc D nL Y) : W p l e R s m args below meth c H locs cells slots Q (F0 m pc ls (st.map (zV base kd))) := by
  obtain ⟨hx, hb, hml, hown, hts, hK, hKon, hbs, hcn, hin, hfr, hlo⟩ := cx
  have hn1 := Nat.eq_of_beq_eq_true hn
  subst hn1
  obtain ⟨t, v, r, ht, rfl, h⟩ := hR
  rcases h with ⟨rfl, rfl⟩ | ⟨⟨a, rfl⟩, rfl⟩
  · exact lv_ifnullN hx hb hd ht (kk H locs cells slots ls hs)
  · exact lv_ifnull hx hb hd (kk H locs cells slots ls hs)
set_option maxHeartbeats 2000000 in
theorem zi_ifnonnull (cx : zCx p s m args meth c base kd tc D S R cc nL own cn g) {off : Int} (hd : decode cc pc = .ok (.ifnonnull off, n)) (hn : zln (.ifnonnull off) n = true) (hR : zR S cn g (.ifnonnull off) n pc L st u w Y) (hs : zSt base kd tc D s R nL H locs cells slots ls (pc, L, st, u, w)) (kk : zKK p l e R s m args below meth c Q base kd tc D nL Y) : W p l e R s m args below meth c H locs cells slots Q (F0 m pc ls (st.map (zV base kd))) := by
  obtain ⟨hx, hb, hml, hown, hts, hK, hKon, hbs, hcn, hin, hfr, hlo⟩ := cx
  have hn1 := Nat.eq_of_beq_eq_true hn
  subst hn1
  obtain ⟨t, v, r, ht, rfl, h⟩ := hR
  rcases h with ⟨⟨a, rfl⟩, rfl⟩ | ⟨rfl, rfl⟩
  · exact lv_ifnonnull hx hb hd ht (kk H locs cells slots ls hs)
  · exact lv_ifnonnullN hx hb hd (kk H locs cells slots ls hs)
set_option maxHeartbeats 2000000 in
theorem zi_tableswitch (cx : zCx p s m args meth c base kd tc D S R cc nL own cn g) {df lo hi : Int} {offs : Array Int} (hd : decode cc pc = .ok (.tableswitch df lo hi offs, n)) (hn : zln (.tableswitch df lo hi offs) n = true) (hR : zR S cn g (.tableswitch df lo hi offs) n pc L st u w Y) (hs : zSt base kd tc D s R nL H locs cells slots ls (pc, L, st, u, w)) (kk : zKK p l e R s m args below meth c Q base kd tc D nL Y) : W p l e R s m args below meth c H locs cells slots Q (F0 m pc ls (st.map (zV base kd))) := by
  obtain ⟨hx, hb, hml, hown, hts, hK, hKon, hbs, hcn, hin, hfr, hlo⟩ := cx
  clear hn
  obtain ⟨t, x, r, rfl, h, rfl⟩ := hR
  rcases h with ⟨h1, h2⟩ | ⟨h1, h2, off, h3, h4⟩
  · exact lv_tableOut hx hb hd h1 h2 (kk H locs cells slots ls hs)
  · exact lv_tableIn hx hb hd h1 h2 h3 h4 (kk H locs cells slots ls hs)
set_option maxHeartbeats 2000000 in
theorem zi_lookupswitch (cx : zCx p s m args meth c base kd tc D S R cc nL own cn g) {df : Int} {ps : Array (Int × Int)} (hd : decode cc pc = .ok (.lookupswitch df ps, n)) (hn : zln (.lookupswitch df ps) n = true) (hR : zR S cn g (.lookupswitch df ps) n pc L st u w Y) (hs : zSt base kd tc D s R nL H locs cells slots ls (pc, L, st, u, w)) (kk : zKK p l e R s m args below meth c Q base kd tc D nL Y) : W p l e R s m args below meth c H locs cells slots Q (F0 m pc ls (st.map (zV base kd))) := by
  obtain ⟨hx, hb, hml, hown, hts, hK, hKon, hbs, hcn, hin, hfr, hlo⟩ := cx
  clear hn
  obtain ⟨t, x, r, rfl, h1, h2, rfl⟩ := hR
  exact lv_lookup hx hb hd h1 rfl h2 (kk H locs cells slots ls hs)
set_option maxHeartbeats 2000000 in
theorem zi_getfield (cx : zCx p s m args meth c base kd tc D S R cc nL own cn g) {idx : Nat} (hd : decode cc pc = .ok (.getfield idx, n)) (hn : zln (.getfield idx) n = true) (hR : zR S cn g (.getfield idx) n pc L st u w Y) (hs : zSt base kd tc D s R nL H locs cells slots ls (pc, L, st, u, w)) (kk : zKK p l e R s m args below meth c Q base kd tc D nL Y) : W p l e R s m args below meth c H locs cells slots Q (F0 m pc ls (st.map (zV base kd))) := by
  obtain ⟨hx, hb, hml, hown, hts, hK, hKon, hbs, hcn, hin, hfr, hlo⟩ := cx
  have hn1 := Nat.eq_of_beq_eq_true hn
  subst hn1
  rcases hR with ⟨a, r, ci, k, fs, v, rfl, hl, hw, hv, rfl⟩ | ⟨q, r, rfl, hq, hc10, hR⟩
  rotate_left
  · have ho : own = "java/lang/String" := by
      rw [hc10] at hcn
      exact (Option.some.inj hcn).symm
    subst ho
    obtain ⟨adK, adV, b1, b2⟩ := hKon.2.2.1
    rw [List.map_cons]
    rw [zV_const (b1 q hq).1]
    rcases hR with ⟨rfl, rfl⟩ | ⟨rfl, rfl⟩
    · have k1 := (kk H locs cells slots ls hs)
      dsimp only at k1
      rw [List.map_cons] at k1
      rw [zV_const (b1 q hq).2] at k1
      exact vk_getf hx hb (b2.1 q hq).2.2.1 hs.2.2.2.1 hown (hts _ (zin zw_sv)) (fun _ h => h) hd k1
    · exact vk_getf hx hb (b2.1 q hq).2.1 hs.2.2.2.1 hown (hts _ (zin zw_sc)) (fun _ h => h) hd (kk H locs cells slots ls hs)
  obtain ⟨own', C, T, N, e1, e2, e3, e4, e5⟩ := zlk_of zf_all hl
  have e1' := zown hcn e1
  subst e1'
  dsimp only at e2 e3 e4 e5
  have hne : (.inr (ci, fs) : va_E) ≠ .inr (99, []) := fun h => by cases h; simp [vwCl] at e2
  exact va_get (D := D) (v := zV base kd v) hx hb hts (zuin (zcls e2).1) hown hK hs.2.1 a (zws_at hs.2.2.2.2.2.2 hw hne) e2 k e3 (hts _ (zin e5)) (fun x h => by rw [e4] at h; exact h) (by rw [List.getElem?_map, ← zat_get, hv]; rfl) hd (kk H locs cells slots ls hs)
set_option maxHeartbeats 2000000 in
theorem zi_putfield (cx : zCx p s m args meth c base kd tc D S R cc nL own cn g) {idx : Nat} (hd : decode cc pc = .ok (.putfield idx, n)) (hn : zln (.putfield idx) n = true) (hR : zR S cn g (.putfield idx) n pc L st u w Y) (hs : zSt base kd tc D s R nL H locs cells slots ls (pc, L, st, u, w)) (kk : zKK p l e R s m args below meth c Q base kd tc D nL Y) : W p l e R s m args below meth c H locs cells slots Q (F0 m pc ls (st.map (zV base kd))) := by
  obtain ⟨hx, hb, hml, hown, hts, hK, hKon, hbs, hcn, hin, hfr, hlo⟩ := cx
  have hn1 := Nat.eq_of_beq_eq_true hn
  subst hn1
  obtain ⟨v, a, r, ci, k, fs, q, rfl, hl, hw, hkl, hq, hf, hfin, rfl⟩ := hR
  exact zput_ok ⟨hx, hb, hml, hown, hts, hK, hKon, hbs, hcn, hin, hfr, hlo⟩ hd hl hw hkl hq hf hfin hs (fun H1 locs1 h1 => kk H1 locs1 cells slots ls h1)
set_option maxHeartbeats 2000000 in
theorem zi_getstatic (cx : zCx p s m args meth c base kd tc D S R cc nL own cn g) {idx : Nat} (hd : decode cc pc = .ok (.getstatic idx, n)) (hn : zln (.getstatic idx) n = true) (hR : zR S cn g (.getstatic idx) n pc L st u w Y) (hs : zSt base kd tc D s R nL H locs cells slots ls (pc, L, st, u, w)) (kk : zKK p l e R s m args below meth c Q base kd tc D nL Y) : W p l e R s m args below meth c H locs cells slots Q (F0 m pc ls (st.map (zV base kd))) := by
  obtain ⟨hx, hb, hml, hown, hts, hK, hKon, hbs, hcn, hin, hfr, hlo⟩ := cx
  have hn1 := Nat.eq_of_beq_eq_true hn
  subst hn1
  rcases hR with ⟨q, hq, rfl⟩ | ⟨hc10, rfl, rfl⟩ | ⟨hc10, rfl, rfl⟩
  rotate_left
  · have ho : own = "java/lang/String" := by
      rw [hc10] at hcn
      exact (Option.some.inj hcn).symm
    subst ho
    exact va_gets hx hb hKon.2.2.2.2.1 hs.2.2.2.1 hown (hts _ (zin zw_ss)) (fun _ h => h) hd (kk H locs cells slots ls hs)
  · have ho : own = "java/lang/String" := by
      rw [hc10] at hcn
      exact (Option.some.inj hcn).symm
    subst ho
    exact va_gets hx hb hKon.2.2.2.2.2 hs.2.2.2.1 hown (hts _ (zin zw_sf)) (fun _ h => h) hd (kk H locs cells slots ls hs)
  obtain ⟨own', nm, e1, e2, e3⟩ := zlk_of zs_all hq
  have e1' := zown hcn e1
  subst e1'
  have hZ := hKon.2.1 q nm e2
  rcases e3 with e3 | e3
  · exact va_gets hx hb hZ hs.2.2.2.1 hown (hts _ (zin e3)) (fun _ h => h) hd (kk H locs cells slots ls hs)
  · exact va_getsN hx hb hZ hs.2.2.2.1 hown (hts _ (zin e3)) (fun _ h => h) hd (kk H locs cells slots ls hs)
set_option maxHeartbeats 2000000 in
theorem zi_iaload (cx : zCx p s m args meth c base kd tc D S R cc nL own cn g) (hd : decode cc pc = .ok (.iaload, n)) (hn : zln (.iaload) n = true) (hR : zR S cn g (.iaload) n pc L st u w Y) (hs : zSt base kd tc D s R nL H locs cells slots ls (pc, L, st, u, w)) (kk : zKK p l e R s m args below meth c Q base kd tc D nL Y) : W p l e R s m args below meth c H locs cells slots Q (F0 m pc ls (st.map (zV base kd))) := by
  obtain ⟨hx, hb, hml, hown, hts, hK, hKon, hbs, hcn, hin, hfr, hlo⟩ := cx
  have hn1 := Nat.eq_of_beq_eq_true hn
  subst hn1
  rcases hR with ⟨x, a, r, m0, f, rfl, hw, hi, rfl⟩ | ⟨x, q, r, rfl, hq, hi, rfl⟩
  · exact va_iald (tys := zTys tc) hx hb hK hs.2.1 a 0 (zws_at hs.2.2.2.2.2.2 hw (fun h => by cases h)) rfl hi hd (kk H locs cells slots ls hs)
  · obtain ⟨a, a1, a2, a3⟩ := hKon.1 q hq
    rw [List.map_cons, List.map_cons]
    rw [zV_const a1]
    exact va_sld hx hb a2 (Nat.lt_of_lt_of_le a3 hbs) (Nat.not_le.mpr a3) hs.2.2.2.1 hi hd (kk H locs cells slots ls hs)
set_option maxHeartbeats 2000000 in
theorem zi_baload (cx : zCx p s m args meth c base kd tc D S R cc nL own cn g) (hd : decode cc pc = .ok (.baload, n)) (hn : zln (.baload) n = true) (hR : zR S cn g (.baload) n pc L st u w Y) (hs : zSt base kd tc D s R nL H locs cells slots ls (pc, L, st, u, w)) (kk : zKK p l e R s m args below meth c Q base kd tc D nL Y) : W p l e R s m args below meth c H locs cells slots Q (F0 m pc ls (st.map (zV base kd))) := by
  obtain ⟨hx, hb, hml, hown, hts, hK, hKon, hbs, hcn, hin, hfr, hlo⟩ := cx
  have hn1 := Nat.eq_of_beq_eq_true hn
  subst hn1
  rcases hR with ⟨x, a, r, m0, f, rfl, hw, hi, rfl⟩ | ⟨x, q, r, bs, rfl, hq, hi, rfl⟩
  · exact va_bald (tys := zTys tc) hx hb hK hs.2.1 a 2 (zws_at hs.2.2.2.2.2.2 hw (fun h => by cases h)) rfl hi hd (kk H locs cells slots ls hs)
  · obtain ⟨adK, adV, b1, b2⟩ := hKon.2.2.1
    obtain ⟨q1, q2, q3⟩ := zstr_at hq
    rw [List.map_cons, List.map_cons]
    rw [zV_const (b1 q q1).2]
    exact va_tb hx hb (b2.1 q q1).2.2.2 hs.2.2.2.1 (by rw [q3]; exact hi) (by rw [q2]; rfl) hd (kk H locs cells slots ls hs)
set_option maxHeartbeats 2000000 in
theorem zi_laload (cx : zCx p s m args meth c base kd tc D S R cc nL own cn g) (hd : decode cc pc = .ok (.laload, n)) (hn : zln (.laload) n = true) (hR : zR S cn g (.laload) n pc L st u w Y) (hs : zSt base kd tc D s R nL H locs cells slots ls (pc, L, st, u, w)) (kk : zKK p l e R s m args below meth c Q base kd tc D nL Y) : W p l e R s m args below meth c H locs cells slots Q (F0 m pc ls (st.map (zV base kd))) := by
  obtain ⟨hx, hb, hml, hown, hts, hK, hKon, hbs, hcn, hin, hfr, hlo⟩ := cx
  have hn1 := Nat.eq_of_beq_eq_true hn
  subst hn1
  obtain ⟨x, a, r, m0, f, rfl, hw, hi, rfl⟩ := hR
  exact va_lald (tys := zTys tc) hx hb hK hs.2.1 a 1 (zws_at hs.2.2.2.2.2.2 hw (fun h => by cases h)) rfl hi hd (kk H locs cells slots ls hs)
set_option maxHeartbeats 2000000 in
theorem zi_aaload (cx : zCx p s m args meth c base kd tc D S R cc nL own cn g) (hd : decode cc pc = .ok (.aaload, n)) (hn : zln (.aaload) n = true) (hR : zR S cn g (.aaload) n pc L st u w Y) (hs : zSt base kd tc D s R nL H locs cells slots ls (pc, L, st, u, w)) (kk : zKK p l e R s m args below meth c Q base kd tc D nL Y) : W p l e R s m args below meth c H locs cells slots Q (F0 m pc ls (st.map (zV base kd))) := by
  obtain ⟨hx, hb, hml, hown, hts, hK, hKon, hbs, hcn, hin, hfr, hlo⟩ := cx
  have hn1 := Nat.eq_of_beq_eq_true hn
  subst hn1
  obtain ⟨x, a, r, t, m0, f, rfl, hw, ht, hi, rfl⟩ := hR
  have k1 := kk H locs cells slots ls hs
  rw [show (List.map (zV base kd) ((pc + 1, L, va_rf (f x.toNatClampNeg) :: r, u, w) : zS).2.2.1) = va_rf ((f x.toNatClampNeg).map (base + ·)) :: r.map (zV base kd) by rw [← zV_rf base kd]; rfl] at k1
  rcases ht with rfl | rfl
  · exact va_aldq (tys := zTys tc) hx hb hK hs.2.1 a 3 (zws_at hs.2.2.2.2.2.2 hw (fun h => by cases h)) rfl hi hd k1
  · exact va_aldq (tys := zTys tc) hx hb hK hs.2.1 a 4 (zws_at hs.2.2.2.2.2.2 hw (fun h => by cases h)) rfl hi hd k1
set_option maxHeartbeats 2000000 in
theorem zi_iastore (cx : zCx p s m args meth c base kd tc D S R cc nL own cn g) (hd : decode cc pc = .ok (.iastore, n)) (hn : zln (.iastore) n = true) (hR : zR S cn g (.iastore) n pc L st u w Y) (hs : zSt base kd tc D s R nL H locs cells slots ls (pc, L, st, u, w)) (kk : zKK p l e R s m args below meth c Q base kd tc D nL Y) : W p l e R s m args below meth c H locs cells slots Q (F0 m pc ls (st.map (zV base kd))) := by
  obtain ⟨hx, hb, hml, hown, hts, hK, hKon, hbs, hcn, hin, hfr, hlo⟩ := cx
  have hn1 := Nat.eq_of_beq_eq_true hn
  subst hn1
  obtain ⟨v, x, a, r, m0, f, rfl, hw, hi, rfl⟩ := hR
  have hc0 : H[base + a]? = some _ := hs.2.1 a _ (zws_at hs.2.2.2.2.2.2 hw (fun h => by cases h))
  refine W.iast hx hb hc0 ((hK.2 0 _ rfl).1 m0 _) (fun q => by cases q) (znin hi) rfl rfl hd fun H1 e1 z oq => ?_
  refine kk H1 _ cells slots ls (hs.put hw (fun h => by cases h) ?_ z oq)
  show H1[base + a]? = some (vp_cell _ _)
  rw [e1, ← zcell_i]
  all_goals rfl
set_option maxHeartbeats 2000000 in
theorem zi_bastore (cx : zCx p s m args meth c base kd tc D S R cc nL own cn g) (hd : decode cc pc = .ok (.bastore, n)) (hn : zln (.bastore) n = true) (hR : zR S cn g (.bastore) n pc L st u w Y) (hs : zSt base kd tc D s R nL H locs cells slots ls (pc, L, st, u, w)) (kk : zKK p l e R s m args below meth c Q base kd tc D nL Y) : W p l e R s m args below meth c H locs cells slots Q (F0 m pc ls (st.map (zV base kd))) := by
  obtain ⟨hx, hb, hml, hown, hts, hK, hKon, hbs, hcn, hin, hfr, hlo⟩ := cx
  have hn1 := Nat.eq_of_beq_eq_true hn
  subst hn1
  obtain ⟨v, x, a, r, m0, f, rfl, hw, hi, rfl⟩ := hR
  have hc0 : H[base + a]? = some _ := hs.2.1 a _ (zws_at hs.2.2.2.2.2.2 hw (fun h => by cases h))
  refine W.bast hx hb hc0 ((hK.2 2 _ rfl).1 m0 _) (fun q => by cases q) (znin hi) rfl rfl hd fun H1 e1 z oq => ?_
  refine kk H1 _ cells slots ls (hs.put hw (fun h => by cases h) ?_ z oq)
  show H1[base + a]? = some (vp_cell _ _)
  rw [e1, ← zcell_i]
  all_goals rfl
set_option maxHeartbeats 2000000 in
theorem zi_lastore (cx : zCx p s m args meth c base kd tc D S R cc nL own cn g) (hd : decode cc pc = .ok (.lastore, n)) (hn : zln (.lastore) n = true) (hR : zR S cn g (.lastore) n pc L st u w Y) (hs : zSt base kd tc D s R nL H locs cells slots ls (pc, L, st, u, w)) (kk : zKK p l e R s m args below meth c Q base kd tc D nL Y) : W p l e R s m args below meth c H locs cells slots Q (F0 m pc ls (st.map (zV base kd))) := by
  obtain ⟨hx, hb, hml, hown, hts, hK, hKon, hbs, hcn, hin, hfr, hlo⟩ := cx
  have hn1 := Nat.eq_of_beq_eq_true hn
  subst hn1
  obtain ⟨v, x, a, r, m0, f, rfl, hw, hi, rfl⟩ := hR
  have hc0 : H[base + a]? = some _ := hs.2.1 a _ (zws_at hs.2.2.2.2.2.2 hw (fun h => by cases h))
  refine W.last hx hb hc0 ((hK.2 1 _ rfl).1 m0 _) (fun q => by cases q) (znin hi) rfl rfl hd fun H1 e1 z oq => ?_
  refine kk H1 _ cells slots ls (hs.put hw (fun h => by cases h) ?_ z oq)
  show H1[base + a]? = some (vp_cell _ _)
  rw [e1, ← zcell_l]
  all_goals rfl
set_option maxHeartbeats 2000000 in
theorem zi_aastore (cx : zCx p s m args meth c base kd tc D S R cc nL own cn g) (hd : decode cc pc = .ok (.aastore, n)) (hn : zln (.aastore) n = true) (hR : zR S cn g (.aastore) n pc L st u w Y) (hs : zSt base kd tc D s R nL H locs cells slots ls (pc, L, st, u, w)) (kk : zKK p l e R s m args below meth c Q base kd tc D nL Y) : W p l e R s m args below meth c H locs cells slots Q (F0 m pc ls (st.map (zV base kd))) := by
  obtain ⟨hx, hb, hml, hown, hts, hK, hKon, hbs, hcn, hin, hfr, hlo⟩ := cx
  have hn1 := Nat.eq_of_beq_eq_true hn
  subst hn1
  obtain ⟨v, x, a, r, t, m0, f, rfl, hw, hi, ht, hv, rfl⟩ := hR
  have hlt : x.toNatClampNeg < m0 := Nat.not_le.mp fun q => hi (Or.inr q)
  have hc0 : H[base + a]? = some _ := hs.2.1 a _ (zws_at hs.2.2.2.2.2.2 hw (fun h => by cases h))
  have key : ∀ (H1 : Heap) (v1 : Option Nat), v1 = v.map (base + ·) → H1[base + a]? = some ((vp_cell (tc t) (m0, .inr (.inr (.inr (.inr (fun i => (f i).map (base + ·))))))).setSlot x.toNatClampNeg (va_rf v1)) → va_at D vwCl (base + a, zE base kd tc (zaq t m0 (va_up f x.toNatClampNeg v))) H1 := by
    intro H1 v1 h1 e1
    show H1[base + a]? = some (vp_cell _ _)
    rw [e1, zcell_q, h1, zmapi]
  have htys : ∃ C, (zTys tc)[t]? = some (tc t, .object C) ∧ ∃ T N, vwCl[t - 2]? = some (C, T, N) := by
    rcases ht with rfl | rfl
    · exact ⟨_, rfl, _, _, rfl⟩
    · exact ⟨_, rfl, _, _, rfl⟩
  obtain ⟨C, ht1, T, N, hc⟩ := htys
  cases v with
  | none =>
    refine va_WaastN (C := C) hx hb hc0 ((hK.2 t _ ht1).1 m0 _) (fun q => by cases q) (znin hi) rfl rfl hd fun H1 e1 z oq => ?_
    exact kk H1 _ cells slots ls (hs.put hw (fun h => by cases h) (key H1 none rfl e1) z oq)
  | some b =>
    obtain ⟨fs, hb1⟩ := hv b rfl
    have hne : (.inr (t - 2, fs) : va_E) ≠ .inr (99, []) := fun h => by
      rcases ht with rfl | rfl <;> cases h
    obtain ⟨r', hr', cellV, g1, g2, g3, -⟩ := hs.2.1 b _ (zws_at hs.2.2.2.2.2.2 hb1 hne)
    have hcls := (hK.1 (t - 2) _ hc).2
    obtain ⟨kA, comp, k1, k2, k3, -⟩ := (hK.2 t _ ht1).2
    have hcomp : comp = D.1 (t - 2) := Option.some.inj (k3.symm.trans hcls.1)
    subst hcomp
    obtain ⟨kC, hkC, -⟩ := hcls.2
    refine W.aast hx hb hc0 (fun q h => by cases h) (fun h => by cases h) k1 k2 rfl hkC ⟨fun q => hi (Or.inl q), by show _ < (arrV _ _ _).slots.size; rw [arrV_size]; exact hlt⟩ g1 (fun q h => by rw [g3] at h; cases h) (by rw [g2]; exact hkC) (by rw [g2]; exact va_assign hcls) rfl rfl hd fun H1 e1 z oq => ?_
    exact kk H1 _ cells slots ls (hs.put hw (fun h => by cases h) (key H1 (some (base + b)) rfl e1) z oq)
set_option maxHeartbeats 2000000 in
theorem zi_arraylength (cx : zCx p s m args meth c base kd tc D S R cc nL own cn g) (hd : decode cc pc = .ok (.arraylength, n)) (hn : zln (.arraylength) n = true) (hR : zR S cn g (.arraylength) n pc L st u w Y) (hs : zSt base kd tc D s R nL H locs cells slots ls (pc, L, st, u, w)) (kk : zKK p l e R s m args below meth c Q base kd tc D nL Y) : W p l e R s m args below meth c H locs cells slots Q (F0 m pc ls (st.map (zV base kd))) := by
  obtain ⟨hx, hb, hml, hown, hts, hK, hKon, hbs, hcn, hin, hfr, hlo⟩ := cx
  have hn1 := Nat.eq_of_beq_eq_true hn
  subst hn1
  rcases hR with ⟨a, r, t, x, rfl, hw, ht, rfl⟩ | ⟨q, r, rfl, hq, rfl⟩ | ⟨q, r, bs, rfl, hq, rfl⟩
  · obtain ⟨y, y1, y2⟩ := zE_len base kd tc t x
    have he := zws_at (base := base) (kd := kd) (tc := tc) hs.2.2.2.2.2.2 hw (fun h => by cases h)
    rw [y1] at he
    have htt : ∃ ty, (zTys tc)[t]? = some (tc t, ty) := by
      match t, ht with
      | 0, _ => exact ⟨_, rfl⟩
      | 1, _ => exact ⟨_, rfl⟩
      | 2, _ => exact ⟨_, rfl⟩
      | 3, _ => exact ⟨_, rfl⟩
      | 4, _ => exact ⟨_, rfl⟩
    obtain ⟨ty, hty⟩ := htt
    exact va_alen hx hb hK hs.2.1 a t he hty (by rw [y2]) hd (kk H locs cells slots ls hs)
  · obtain ⟨a, a1, a2, a3⟩ := hKon.1 q hq
    rw [List.map_cons]
    rw [zV_const a1]
    exact va_slen hx hb a2 (Nat.lt_of_lt_of_le a3 hbs) (Nat.not_le.mpr a3) hs.2.2.2.1 hd (kk H locs cells slots ls hs)
  · obtain ⟨adK, adV, b1, b2⟩ := hKon.2.2.1
    obtain ⟨q1, q2, q3⟩ := zstr_at hq
    rw [List.map_cons]
    rw [zV_const (b1 q q1).2]
    exact va_tlen hx hb (b2.1 q q1).2.2.2 hs.2.2.2.1 (by rw [q3]) hd (kk H locs cells slots ls hs)
end ZOK2
