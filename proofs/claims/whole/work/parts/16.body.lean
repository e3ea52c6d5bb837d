theorem zKon.same {base : Nat} {kd : Nat → Option Nat} {S : Nat × (Nat → Int32)} {u U : State} (hv : U.vm = u.vm) (hh : U.heap = u.heap) (h : zKon base kd S u u.heap) : zKon base kd S U U.heap := by
  obtain ⟨h1, h2, ⟨adK, adV, h3, h4⟩, h5, h6, h7⟩ := h
  have hal : u.vm.Alike U.vm := by rw [hv]; exact Vm.Alike.refl _
  rw [hh]
  refine ⟨fun q hq0 => ?_, fun q nm hn => (h2 q nm hn).moved hal, ⟨adK, adV, h3, h4.moved hal⟩, fun q idx tx hn => ?_, h6.moved hal, h7.moved hal⟩
  · obtain ⟨a, a1, a2, a3⟩ := h1 q hq0
    exact ⟨a, a1, a2.moved hal, a3⟩
  · obtain ⟨a, a1, a2⟩ := h5 q idx tx hn
    exact ⟨a, a1, a2.same hv⟩
theorem zmv_same {A A' : Array Value} {u U : State} (hv : U.vm = u.vm) {w : Cond} (hz : zmv w = true) (h : w.before A u = true) : w.before A' U = true := by
  have hal : u.vm.Alike U.vm := by rw [hv]; exact Vm.Alike.refl _
  by_cases ho : w.onTables = true
  · exact va_tabs ho hv.symm h
  · cases w <;> first
      | (exfalso; exact ho rfl)
      | (exfalso; simp [zmv, Cond.onTables] at hz; done)
      | skip
    · rename_i ty
      have h1 : (Cond.arrayClass ty).before A (u.setVm U.vm) = true := by
        rw [hv]
        exact h
      exact h1
    · rename_i ty
      cases ty <;> first | exact va_AO.moved hal h | (exfalso; simp [zmv, Cond.onTables] at hz; done)
theorem zTB_same {A A' : Array Value} {u U : State} (hv : U.vm = u.vm) (h : ∀ w ∈ zTB, w.before A u = true) : ∀ w ∈ zTB, w.before A' U = true := fun w hw => zmv_same hv (List.mem_filter.mp hw).2 (h w hw)
section ZBODY
variable {p : Program} {l : Launch} {e : Env} {R : Room} {s : State} {m : MethodId} {args : Array Value} {below : List Frame} {meth : Method} {c : Code} {H : Heap} {locs : List Loc} {cells slots : Nat} {Q : State → Prop}
variable {base : Nat} {kd : Nat → Option Nat} {tc : Nat → ClassId} {D : va_G} {S : Nat × (Nat → Int32)} {cc : ByteArray} {nL : Nat} {own : String} {cn : Nat} {g : Bool} {n pc : Nat} {L : zL} {st : List Value} {u : Nat × Nat} {w : zW} {Y : zS} {ls : Array Slot}
/-- any instruction that is no call and no return -/
theorem zR_ok (cx : zCx p s m args meth c base kd tc D S R cc nL own cn g) {i : Instr} (hd : decode cc pc = .ok (i, n)) (hn : zln i n = true) (hR : zR S cn g i n pc L st u w Y) (hs : zSt base kd tc D s R nL H locs cells slots ls (pc, L, st, u, w)) (kk : zKK p l e R s m args below meth c Q base kd tc D nL Y) : W p l e R s m args below meth c H locs cells slots Q (F0 m pc ls (st.map (zV base kd))) := by
  cases i with
  | aconst_null => exact zi_aconst_null cx hd hn hR hs kk
  | iconst _ => exact zi_iconst cx hd hn hR hs kk
  | bipush _ => exact zi_bipush cx hd hn hR hs kk
  | sipush _ => exact zi_sipush cx hd hn hR hs kk
  | lconst _ => exact zi_lconst cx hd hn hR hs kk
  | ldc _ => exact zi_ldc cx hd hn hR hs kk
  | ldc_w _ => exact zi_ldc_w cx hd hn hR hs kk
  | ldc2_w _ => exact zi_ldc2_w cx hd hn hR hs kk
  | iload _ => exact zi_iload cx hd hn hR hs kk
  | iload_n _ => exact zi_iload_n cx hd hn hR hs kk
  | lload _ => exact zi_lload cx hd hn hR hs kk
  | lload_n _ => exact zi_lload_n cx hd hn hR hs kk
  | aload _ => exact zi_aload cx hd hn hR hs kk
  | aload_n _ => exact zi_aload_n cx hd hn hR hs kk
  | istore _ => exact zi_istore cx hd hn hR hs kk
  | istore_n _ => exact zi_istore_n cx hd hn hR hs kk
  | lstore _ => exact zi_lstore cx hd hn hR hs kk
  | lstore_n _ => exact zi_lstore_n cx hd hn hR hs kk
  | astore _ => exact zi_astore cx hd hn hR hs kk
  | astore_n _ => exact zi_astore_n cx hd hn hR hs kk
  | iinc _ _ => exact zi_iinc cx hd hn hR hs kk
  | iadd => exact zi_iadd cx hd hn hR hs kk
  | isub => exact zi_isub cx hd hn hR hs kk
  | imul => exact zi_imul cx hd hn hR hs kk
  | iand => exact zi_iand cx hd hn hR hs kk
  | ior => exact zi_ior cx hd hn hR hs kk
  | ixor => exact zi_ixor cx hd hn hR hs kk
  | ishl => exact zi_ishl cx hd hn hR hs kk
  | ishr => exact zi_ishr cx hd hn hR hs kk
  | ladd => exact zi_ladd cx hd hn hR hs kk
  | lsub => exact zi_lsub cx hd hn hR hs kk
  | lmul => exact zi_lmul cx hd hn hR hs kk
  | land => exact zi_land cx hd hn hR hs kk
  | lor => exact zi_lor cx hd hn hR hs kk
  | iushr => exact zi_iushr cx hd hn hR hs kk
  | lshl => exact zi_lshl cx hd hn hR hs kk
  | lshr => exact zi_lshr cx hd hn hR hs kk
  | lushr => exact zi_lushr cx hd hn hR hs kk
  | lcmp => exact zi_lcmp cx hd hn hR hs kk
  | idiv => exact zi_idiv cx hd hn hR hs kk
  | irem => exact zi_irem cx hd hn hR hs kk
  | i2l => exact zi_i2l cx hd hn hR hs kk
  | l2i => exact zi_l2i cx hd hn hR hs kk
  | i2b => exact zi_i2b cx hd hn hR hs kk
  | i2s => exact zi_i2s cx hd hn hR hs kk
  | i2c => exact zi_i2c cx hd hn hR hs kk
  | dup => exact zi_dup cx hd hn hR hs kk
  | pop => exact zi_pop cx hd hn hR hs kk
  | dup2 => exact zi_dup2 cx hd hn hR hs kk
  | goto _ => exact zi_goto cx hd hn hR hs kk
  | ifCond _ _ => exact zi_ifCond cx hd hn hR hs kk
  | if_icmp _ _ => exact zi_if_icmp cx hd hn hR hs kk
  | ifnull _ => exact zi_ifnull cx hd hn hR hs kk
  | ifnonnull _ => exact zi_ifnonnull cx hd hn hR hs kk
  | tableswitch _ _ _ _ => exact zi_tableswitch cx hd hn hR hs kk
  | lookupswitch _ _ => exact zi_lookupswitch cx hd hn hR hs kk
  | getfield _ => exact zi_getfield cx hd hn hR hs kk
  | putfield _ => exact zi_putfield cx hd hn hR hs kk
  | getstatic _ => exact zi_getstatic cx hd hn hR hs kk
  | iaload => exact zi_iaload cx hd hn hR hs kk
  | baload => exact zi_baload cx hd hn hR hs kk
  | laload => exact zi_laload cx hd hn hR hs kk
  | aaload => exact zi_aaload cx hd hn hR hs kk
  | iastore => exact zi_iastore cx hd hn hR hs kk
  | bastore => exact zi_bastore cx hd hn hR hs kk
  | lastore => exact zi_lastore cx hd hn hR hs kk
  | aastore => exact zi_aastore cx hd hn hR hs kk
  | arraylength => exact zi_arraylength cx hd hn hR hs kk
  | new _ => exact zi_new cx hd hn hR hs kk
  | newarray _ => exact zi_newarray cx hd hn hR hs kk
  | anewarray _ => exact zi_anewarray cx hd hn hR hs kk
  | invokespecial _ => exact zi_objInit cx hd hn hR hs kk
  | invokestatic _ => exact zi_istatic cx hd hn hR hs kk
  | _ => exact False.elim hR
/-- the picture at a method's ends -/
def zB (base : Nat) (kd : Nat → Option Nat) (tc : Nat → ClassId) (D : va_G) (S : Nat × (Nat → Int32)) (U : State) (w : zW) : Prop :=
  U.heap.size = base + w.1 ∧ va_P D vwCl (zws base kd tc w) U.heap ∧ (∀ a, w.1 ≤ a → w.2 a = .inr (99, [])) ∧ va_K D vwCl (zTys tc) U ∧ zKon base kd S U U.heap ∧ ∀ w ∈ zTB, w.before #[] U = true
def zPre (base : Nat) (kd : Nat → Option Nat) (tc : Nat → ClassId) (D : va_G) (S : Nat × (Nat → Int32)) (As : List Value) (w : zW) : Array Value → State → Prop := fun v U => v = (As.map (zV base kd)).toArray ∧ zB base kd tc D S U w
def zQc (base : Nat) (kd : Nat → Option Nat) (tc : Nat → ClassId) (D : va_G) (S : Nat × (Nat → Int32)) (Q0 : zQ) : Array Value → State → Outcome → State → Prop := fun _ st oc t => (∃ r w', oc = .returned (r.map (zV base kd)) ∧ Q0 r w' ∧ zB base kd tc D S t w') ∧ va_F (zAA base) st t
def zrm (d : Nat) (q : zMI) : Room := { frames := 8 + d, cells := q.2.2.2.2.2.1, slots := q.2.2.2.2.2.2.1, locals := 400 + 100 * d }
def zMet (l : Launch) (base : Nat) (kd : Nat → Option Nat) (tc : Nat → ClassId) (D : va_G) (S : Nat × (Nat → Int32)) (d : Nat) (q : zMI) (y : zYI) (As : List Value) (w : zW) (Q0 : zQ) : Prop :=
  Met l y.1 [Cond.code y.1 y.2.1 q.2.2.2.2.1 y.2.2] (zrm d q) (zPre base kd tc D S As w) (zQc base kd tc D S Q0) q.2.2.2.2.2.1 q.2.2.2.2.2.2.1 (zAA base)
theorem zPre_blind (As : List Value) : FrameBlind (zPre base kd tc D S As w) := fun a U gf mk h => by
  obtain ⟨h1, h2, h3, h4, h5, h6, h7⟩ := h
  exact ⟨h1, h2, h3, h4, va_K.moved (u := U) (U := U.calling gf mk a) (Vm.Alike.refl U.vm) h5, zKon.same rfl rfl h6, zTB_same (u := U) (U := U.calling gf mk a) rfl h7⟩
theorem zB_at (cx : zCx p s m args meth c base kd tc D S R cc nL own cn g) (hs : zSt base kd tc D s R nL H locs cells slots ls (pc, L, st, u, w)) {U : State} (hU : U.heap = H) (hW : s.WarmedH U.vm) : zB base kd tc D S U w := by
  obtain ⟨hx, hb, hml, hown, hts, hK, hKon, hbs, hcn, hin, hfr, hlo⟩ := cx
  obtain ⟨h1, h2, h3, h4, h5, h6, h7⟩ := hs
  refine ⟨by rw [hU]; exact h3, by rw [hU]; exact h2, h7, va_K.moved hW.alike hK, ?_, zTB_at hW hts⟩
  exact hKon.moved hW hbs (fun a ha => by rw [hU]; exact h4.2.1 a (Nat.lt_of_lt_of_le ha hbs) (Nat.not_le.mpr ha))
/-- behind a call -/
theorem zcall_on {mc ms : Nat} {Q0 : zQ} {st0 rest : List Value} {a : Array Value} (hr : va_Run p l e R s m args below meth c H locs cells slots mc ms (F0 m pc ls st0) rest (zQc base kd tc D S Q0 a) (zAA base)) (hS : va_S (zAA base) s.heap H locs)
    (kk : ∀ (r : Option Value) (w' : zW) (H1 : Heap) (locs1 : List Loc), Q0 r w' → H1.size = base + w'.1 → va_P D vwCl (zws base kd tc w') H1 → (∀ a, w'.1 ≤ a → w'.2 a = .inr (99, [])) → va_S (zAA base) s.heap H1 locs1 → W p l e R s m args below meth c H1 locs1 (cells + mc) (slots + ms) Q (F0 m (pc + 3) ls ((r.map (zV base kd)).toList ++ rest))) : W p l e R s m args below meth c H locs cells slots Q (F0 m pc ls st0) := by
  intro T hT X
  obtain ⟨v, st₀, t, T', L', h0, X', hL, e1, e2, ⟨⟨r, w', hv, hq, hB⟩, hz, hk⟩, st⟩ := hr T hT X
  injection hv with hv
  subst hv
  rw [h0] at hz hk
  obtain ⟨t2, a1, b1⟩ := kk r w' T'.heap (locs ++ L') hq (by rw [e1]; exact hB.1) (by rw [e1]; exact hB.2.1) hB.2.2.1
    ⟨Nat.le_trans hS.1 (by rw [e1]; exact hz), fun q g1 g2 => by rw [e1, hk q (Nat.lt_of_lt_of_le g1 hS.1) g2]; exact hS.2.1 q g1 g2, fun q hq => by
      rcases List.mem_append.mp hq with h | h
      · exact hS.2.2 q h
      · exact hL q h⟩ T' rfl X'
  exact ⟨t2, st t2 a1, b1⟩
end ZBODY
