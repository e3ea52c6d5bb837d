/-! THE CLAIM OUT OF ONE WALK OF THE LAW'S BODY. Your part is whole_start (and what it stands on); all else here is the same for every law, but numbers. -/
def R_law : String := "LastDaysLaw"
def lw_P (b : Addr) (xs : List Int32) (args : Array Value) (s : State) : Prop := args = #[.ref b] ∧ s.IntsAt b xs ∧ xs.length ≤ 320 ∧ (Jvm.Cond.and given_1 narrow_1).before args s = true
def lw_Q (_ : Array Value) (s : State) (o : Outcome) (t : State) : Prop := o = .returned (some (.int 1)) ∧ Framed s o t [] room_1.cells room_1.slots
def lw_Z (below : List Frame) (a : Array Value) (s : State) : State → Prop := fun t => ∃ o, t.status = .running ∧ Ended t below o ∧ lw_Q a s o t
/-- the law's own end, with 1 on the stack, nothing written that was there before, its room as the claim has it -/
theorem lw_ret {p : Program} {l : Launch} {e : Env} {s : State} {m : MethodId} {below : List Frame} {meth : Method} {c : Code} {b : Nat} (hx : p.tables.exec = Jvm.exec) (hb : c.code = code) (hr : meth.sig.returnType = ret) (hlocks : meth.locks = false) {pc : Nat} {H : Heap} {ls : Array Slot} (hdg : decode code pc = .ok (.ireturn, 1)) : W p l e room_1 s m #[Value.ref b] below meth c H [] room_1.cells room_1.slots (lw_Z below #[Value.ref b] s) (F0 m pc ls [.int 1]) := by
  intro T hT X
  obtain ⟨fs, hret, hrun, hended, hW, hframe⟩ := X.leave (v := some (.int 1)) (hlocks := hlocks) (fun h => by rw [hr] at h; cases h)
  have hmeth' : T.vm.method? m = some meth := X.method'
  refine ⟨T.setFrames fs, ?_, .returned (some (.int 1)), hrun, hended, rfl, ⟨_, rfl⟩, hW, hframe⟩
  jvm_step X.here [X.here.top, hx, hb, hdg, hmeth', hr, ret, narrow_b1]
  (try refine ⟨rfl, ?_⟩); (try refine ⟨rfl, ?_⟩)
  first | (intro acts; rw [hret _ acts rfl rfl rfl]) | rw [hret _ _ rfl rfl rfl]
  exact Steps.refl _
/-- what holds at the law's entry: the machine, the code, the tables' words (any of lw_tbl by 'hts w (by decide +kernel)'), the script of L ints xs at the cell b, what the Statement gives of the start (any of its parts by flat_of_before) -/
def lw_At (p : Program) (s : State) (m : MethodId) (meth : Method) (c : Code) (b L : Nat) (xs : Nat → Int32) : Prop :=
  p.tables.exec = Jvm.exec ∧ c.code = code ∧ meth.sig.returnType = ret ∧ c.maxLocals = 4 ∧ s.vm.findClass R_law = some m.cls ∧ (∀ w ∈ lw_tbl, w.before #[Value.ref b] s = true) ∧ va_X b L xs s s.heap ∧ b < s.heap.size ∧ meth.locks = false ∧ (Jvm.Cond.and given_1 narrow_1).before #[Value.ref b] s = true
theorem zlaw_dok : ∀ w ∈ zTB, w ∈ lw_tbl := fun w h => (List.mem_filter.mp h).1
set_option maxHeartbeats 4000000 in
/-- the law's start, out of its run in the small machine -/
theorem zstart_of (hZ : ∀ S : Nat × (Nat → Int32), S.1 ≤ 320 → Zw S (Zc S 40) 9 false 3 zk_L_law (fun r _ => r = some (.int 1)) (0, [some (.retAddr 4), none, none, none], [], (100000, 1000000), (0, fun _ => .inr (99, []))))
    {p : Program} {e : Env} {s : State} {m : MethodId} {below : List Frame} {meth : Method} {c : Code} (l : Launch) {b L : Nat} {xs : Nat → Int32} (hL : L ≤ 320) (C0 : lw_At p s m meth c b L xs) : W p l e room_1 s m #[Value.ref b] below meth c s.heap [] 0 0 (lw_Z below #[Value.ref b] s) (entryFrame m ([Value.ref b] : List Value).toArray 4) := by
  obtain ⟨hx, hb, hr, hml, hown, hts, hX, hbl, hlocks, hgv⟩ := C0
  obtain ⟨kd, hKon, hk4⟩ := zkon_start hts hX hbl hgv
  obtain ⟨tc, D, hK⟩ := zK_start hts
  have cx : zCx p s m #[Value.ref b] meth c s.heap.size kd tc D (L, xs) room_1 code 4 "LastDaysLaw" 9 false := ⟨hx, hb, hml, hown, fun w h => hts w (zlaw_dok w h), hK, hKon, Nat.le_refl _, rfl, (fun h => by cases h), by decide, by decide⟩
  have hl := lv_entry ([.ref b]) (n := 4) (Nat.le_of_ble_eq_true rfl)
  rw [lg_entry_eq]
  generalize (lg_sl ([.ref b]) ++ List.replicate (4 - (lg_sl ([.ref b])).length) Slot.unset).toArray = ls at hl ⊢
  have hH : zH s.heap.size kd ls 4 [some (.retAddr 4), none, none, none] := by
    refine ⟨hl.1, hl.2.1, rfl, fun i v hi => ?_⟩
    match i, hi with
    | 0, hi =>
      cases hi
      rw [zV_const hk4]
      exact hl.2.2 (0, .ref b) List.mem_cons_self
    | 1, hi => cases hi
    | 2, hi => cases hi
    | 3, hi => cases hi
    | i + 4, hi => simp [zat] at hi
  refine zbody (d := 40) (rt := 3) (Q0 := fun r _ => r = some (.int 1)) cx ⟨by decide, by decide⟩ (zsound l s.heap.size kd tc D (L, xs) 40) zd_L_law ?_ (hZ (L, xs) hL) s.heap [] 0 0 ls ⟨hH, fun k q h => ?_, rfl, va_S.rf, (show 0 + 100000 ≤ room_1.cells by decide), (show 0 + 1000000 ≤ room_1.slots by decide), fun a _ => rfl⟩
  · intro pc L' st u w' i H locs cells slots ls hrt hd hs
    have hc5 : cells + u.1 ≤ room_1.cells := hs.2.2.2.2.1
    have hc6 : slots + u.2 ≤ room_1.slots := hs.2.2.2.2.2.1
    match i, hrt with
    | .return_, ⟨h1, h2, h3⟩ => cases h1
    | .ireturn, ⟨v, h1, h2, h3⟩ =>
      subst h1
      cases h3
      refine va_forget (fun q hq => hs.2.2.2.1.2.2 q hq) ?_
      refine W.widen (k := room_1.cells) (n := room_1.slots) (by omega) (by omega) ?_
      exact lw_ret hx hb hr hlocks hd
    | .lreturn, ⟨v, h1, h2, h3⟩ => cases h2
  · simp [zws] at h
