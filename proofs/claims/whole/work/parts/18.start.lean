theorem zstr_ev {A A' : Array Value} {U : State} {own : String} {k : Nat} {r : Option Value} (h : (Term.string own k).eval A U none [] U = r) : (Term.string own k).eval A' U none [] U = r := by
  rw [← h]
  rfl
theorem zstr_any {A A' : Array Value} {U : State} {own tx : String} {k : Nat} (h : (Cond.stringRef own k tx).before A U = true) : (Cond.stringRef own k tx).before A' U = true := h
/-! the law's start: what the Statement gives is the small machine's start -/
theorem zX_of {args : Array Value} {s : State} {tm : Term} {N : Nat} {f : Nat → Int32} (hN : N < 2 ^ 31) (harr : (Cond.arrayOf tm .int).before args s = true) (hlen : (Term.length tm).eval args s none [] s = some (.int (Int32.ofNat N))) (hel : ∀ j : Nat, j < N → (Term.elem tm (.int (Int32.ofNat j))).eval args s none [] s = some (.int (f j))) : ∃ t : Nat, tm.eval args s none [] s = some (.ref t) ∧ va_X t N f s s.heap ∧ t < s.heap.size := by
  obtain ⟨t, ht, cell, h1, h2, h3, h4, h5, h6, -⟩ := va_Tof (A := fun _ => False) (f := fun j => .int (f j)) hN harr hlen hel (fun _ _ h => h)
  obtain ⟨b, cell', hb, hat, hsm, hv⟩ := Jvm.Lib.length_spec hlen
  cases ht.symm.trans hb
  have hc := (State.arrayAt?_spec hat).1
  cases h1.symm.trans hc
  have hsz : cell.slots.size = N := (nI_eq hsm hN).mp h5
  exact ⟨t, ht, ⟨cell, h1, h2, h3, hsz, h6⟩, (Array.getElem?_eq_some_iff.mp h1).1⟩
abbrev zgv : List Cond := flatC (Jvm.Cond.and given_1 narrow_1)
def zsta (q : Nat) : Term := .static "LastDays" (zsnm.getD q "") "[I"
def zlen4 : List Nat := [5, 5, 5, 6]
set_option maxRecDepth 20000 in
theorem zg_arr : ∀ q, q < 4 → Cond.arrayOf (zsta q) .int ∈ zgv := by decide +kernel
set_option maxRecDepth 20000 in
theorem zg_len : ∀ q, q < 4 → Cond.eq (.length (zsta q)) (.int (Int32.ofNat (zlen4.getD q 0))) ∈ zgv := by decide +kernel
set_option maxRecDepth 20000 in
theorem zg_el : ∀ q, q < 4 → ∀ j, j < zlen4.getD q 0 → Cond.eq (.elem (zsta q) (.int (Int32.ofNat j))) (.int ((zct (0, fun _ => 0) q).2 j)) ∈ zgv := by decide +kernel
theorem zct_4 {S S' : Nat × (Nat → Int32)} : ∀ q, q < 4 → zct S q = zct S' q
  | 0, _ => rfl
  | 1, _ => rfl
  | 2, _ => rfl
  | 3, _ => rfl
theorem zct_len {S : Nat × (Nat → Int32)} : ∀ q, q < 4 → (zct S q).1 = zlen4.getD q 0
  | 0, _ => rfl
  | 1, _ => rfl
  | 2, _ => rfl
  | 3, _ => rfl
set_option maxRecDepth 20000 in
theorem zg_lays : ∀ q, q < 4 → Cond.laysStatic "LastDays" (zsnm.getD q "") "[I" ∈ lw_tbl := by decide +kernel
def ztm (i : Nat) : Term := .string "LastDays$Tape" ((zstx.getD i (0, "")).1)
set_option maxRecDepth 20000 in
theorem zg_ex : ∀ i, i < 13 → Cond.exactly (ztm i) "java/lang/String" ∈ zgv := by decide +kernel
set_option maxRecDepth 20000 in
theorem zg_co : ∀ i, i < 13 → Cond.eq (.field (ztm i) "java/lang/String" "coder" "B") (.int 0) ∈ zgv := by decide +kernel
set_option maxRecDepth 20000 in
theorem zg_ar : ∀ i, i < 13 → Cond.arrayOf (.field (ztm i) "java/lang/String" "value" "[B") .byte ∈ zgv := by decide +kernel
set_option maxRecDepth 20000 in
theorem zg_le : ∀ i, i < 13 → Cond.eq (.length (.field (ztm i) "java/lang/String" "value" "[B")) (.int (Int32.ofNat ((zstrs.map List.length).getD i 0))) ∈ zgv := by decide +kernel
set_option maxRecDepth 20000 in
theorem zg_by : ∀ i, i < 13 → ∀ j, j < (zstrs.map List.length).getD i 0 → Cond.eq (.elem (.field (ztm i) "java/lang/String" "value" "[B") (.int (Int32.ofNat j))) (.int ((zstrs.getD i []).getD j 0)) ∈ zgv := by decide +kernel
def znp : List (Nat × Nat × Nat) := [(0, 1, 74), (0, 2, 85), (1, 2, 86), (0, 3, 97), (1, 3, 98), (2, 3, 99), (0, 4, 110), (1, 4, 111), (2, 4, 112), (3, 4, 113), (0, 5, 122), (1, 5, 123), (2, 5, 124), (3, 5, 125), (4, 5, 126), (0, 6, 135), (1, 6, 136), (2, 6, 137), (3, 6, 138), (4, 6, 139), (5, 6, 140), (0, 7, 148), (1, 7, 149), (2, 7, 150), (3, 7, 151), (4, 7, 152), (5, 7, 153), (6, 7, 154), (0, 8, 162), (1, 8, 163), (2, 8, 164), (3, 8, 165), (4, 8, 166), (5, 8, 167), (6, 8, 168), (7, 8, 169), (0, 9, 178), (1, 9, 179), (2, 9, 180), (3, 9, 181), (4, 9, 182), (5, 9, 183), (6, 9, 184), (7, 9, 185), (8, 9, 186), (0, 10, 198), (1, 10, 199), (2, 10, 200), (3, 10, 201), (4, 10, 202), (5, 10, 203), (6, 10, 204), (7, 10, 205), (8, 10, 206), (9, 10, 207), (0, 11, 216), (1, 11, 217), (2, 11, 218), (3, 11, 219), (4, 11, 220), (5, 11, 221), (6, 11, 222), (7, 11, 223), (8, 11, 224), (9, 11, 225), (10, 11, 226), (0, 12, 235), (1, 12, 236), (2, 12, 237), (3, 12, 238), (4, 12, 239), (5, 12, 240), (6, 12, 241), (7, 12, 242), (8, 12, 243), (9, 12, 244), (10, 12, 245), (11, 12, 246)]
set_option maxRecDepth 20000 in
theorem znp_ok : znp.all (fun e => decide (zgv[e.2.2]? = some (Cond.not (.eq (ztm e.1) (ztm e.2.1))))) = true := by decide +kernel
theorem znp_all : ∀ i, i < 13 → ∀ j, j < 13 → i ≠ j → (∃ e ∈ znp, e.1 = i ∧ e.2.1 = j) ∨ (∃ e ∈ znp, e.1 = j ∧ e.2.1 = i) := by decide +kernel
theorem zg_ne : ∀ i, i < 13 → ∀ j, j < 13 → i ≠ j → Cond.not (.eq (ztm i) (ztm j)) ∈ zgv ∨ Cond.not (.eq (ztm j) (ztm i)) ∈ zgv := by
  intro i hi j hj hne
  rcases znp_all i hi j hj hne with ⟨e, he, rfl, rfl⟩ | ⟨e, he, rfl, rfl⟩
  · exact Or.inl (List.mem_of_getElem? (of_decide_eq_true (List.all_eq_true.mp znp_ok e he)))
  · exact Or.inr (List.mem_of_getElem? (of_decide_eq_true (List.all_eq_true.mp znp_ok e he)))
set_option maxRecDepth 20000 in
theorem zg_sr : ∀ i, i < 13 → Cond.stringRef "LastDays$Tape" (zstx.getD i (0, "")).1 (zstx.getD i (0, "")).2 ∈ lw_tbl := by decide +kernel
set_option maxRecDepth 20000 in
theorem zg_cs : Cond.eq (.static "java/lang/String" "COMPACT_STRINGS" "Z") (.int 1) ∈ zgv := by decide +kernel
set_option maxRecDepth 20000 in
theorem zg_sf : Cond.isRef (.static "jdk/internal/util/Preconditions" "SIOOBE_FORMATTER" "Ljava/util/function/BiFunction;") ∈ zgv := by decide +kernel

theorem zl_cs : Cond.laysStatic "java/lang/String" "COMPACT_STRINGS" "Z" ∈ lw_tbl := List.mem_of_getElem? (i := 342) (by decide +kernel)
theorem zl_sf : Cond.laysStatic "jdk/internal/util/Preconditions" "SIOOBE_FORMATTER" "Ljava/util/function/BiFunction;" ∈ lw_tbl := List.mem_of_getElem? (i := 358) (by decide +kernel)
theorem zl_i0 : Cond.initialized "LastDays" ∈ lw_tbl := List.mem_of_getElem? (i := 79) (by decide +kernel)
theorem zl_i1 : Cond.initialized "java/lang/String" ∈ lw_tbl := List.mem_of_getElem? (i := 86) (by decide +kernel)
theorem zl_i2 : Cond.initialized "jdk/internal/util/Preconditions" ∈ lw_tbl := List.mem_of_getElem? (i := 88) (by decide +kernel)
theorem zl_a3 : Cond.arrayOver (.object "LastDays$Person") ∈ lw_tbl := List.mem_of_getElem? (i := 108) (by decide +kernel)
theorem zl_a4 : Cond.arrayOver (.object "LastDays$Sheet") ∈ lw_tbl := List.mem_of_getElem? (i := 234) (by decide +kernel)
theorem zkon_start {b L : Nat} {xs : Nat → Int32} {s : State} (hts : ∀ w ∈ lw_tbl, w.before #[Value.ref b] s = true) (hX : va_X b L xs s s.heap) (hbl : b < s.heap.size) (hgv : (Jvm.Cond.and given_1 narrow_1).before #[Value.ref b] s = true) : ∃ kd : Nat → Option Nat, zKon s.heap.size kd (L, xs) s s.heap ∧ kd 4 = some b := by
  have hs := flat_of_before _ hgv
  have hA : ∀ a : Nat, a < s.heap.size → ¬ zAA s.heap.size a := fun a h => Nat.not_le.mpr h
  have h4 : ∀ q : Nat, ∃ t : Nat, q < 4 → (zsta q).eval #[Value.ref b] s none [] s = some (.ref t) ∧ va_X t (zct (L, xs) q).1 (zct (L, xs) q).2 s s.heap ∧ t < s.heap.size := by
    intro q
    by_cases hq : q < 4
    · obtain ⟨t, h1, h2, h3⟩ := zX_of (tm := zsta q) (N := zlen4.getD q 0) (f := (zct (0, fun _ => 0) q).2) (by
        match q, hq with
        | 0, _ => decide
        | 1, _ => decide
        | 2, _ => decide
        | 3, _ => decide) (hs _ (zg_arr q hq)) (va_eqt (hs _ (zg_len q hq))) (fun j hj => va_eqt (hs _ (zg_el q hq j hj)))
      rw [← zct_len (S := (L, xs)) q hq, zct_4 (S := (0, fun _ => 0)) (S' := (L, xs)) q hq] at h2
      exact ⟨t, fun _ => ⟨h1, h2, h3⟩⟩
    · exact ⟨0, fun h => absurd h hq⟩
  obtain ⟨tt, h4⟩ := Classical.axiomOfChoice h4
  obtain ⟨adK, adV, hS, hS2⟩ := vk_Sof (args := #[Value.ref b]) (s := s) (N := 13) (tm := ztm) (len := zstrs.map List.length) (byt := zstrs) (A := zAA s.heap.size) (by decide +kernel) (fun i hi => hs _ (zg_ex i hi)) (fun i hi => hs _ (zg_co i hi)) (fun i hi => hs _ (zg_ar i hi)) (fun i hi => hs _ (zg_le i hi)) (fun i hi j hj => hs _ (zg_by i hi j hj)) (fun i j hi hj hne => (zg_ne i hi j hj hne).imp (fun h => hs _ h) (fun h => hs _ h)) hA
  have hfm : ∃ r : Option Nat, va_Z "jdk/internal/util/Preconditions" "SIOOBE_FORMATTER" "Ljava/util/function/BiFunction;" (va_rf r) (zAA s.heap.size) s s.heap := by
    rcases va_Zqof (A := zAA s.heap.size) (hts _ zl_sf) (hts _ zl_i2) (hs _ zg_sf) hA with h | ⟨t, h⟩
    · exact ⟨none, h⟩
    · exact ⟨some t, h⟩
  obtain ⟨fm, hfm⟩ := hfm
  refine ⟨fun q => if q < 4 then some (tt q) else if q = 4 then some b else if q < 30 then some (adK (q - 10)) else if q < 60 then some (adV (q - 30)) else fm, ⟨fun q hq => ?_, fun q nm hn => ?_, ⟨adK, adV, fun i hi => ⟨?_, ?_⟩, hS⟩, fun q idx tx hn => ?_, va_Zof (hts _ zl_cs) (hts _ zl_i1) (va_eqi (hs _ zg_cs)) hA, hfm⟩, rfl⟩
  · by_cases h : q < 4
    · exact ⟨tt q, if_pos h, (h4 q h).2⟩
    · have : q = 4 := by omega
      subst this
      exact ⟨b, rfl, hX, hbl⟩
  · have hq : q < 4 := zat_lt hn
    have hnm : nm = zsnm.getD q "" := by
      rw [zat_get] at hn
      simp [List.getD, hn]
    show va_Z "LastDays" nm "[I" (va_rf (if q < 4 then some (tt q) else _)) _ s s.heap
    rw [if_pos hq, hnm]
    exact va_Zof (hts _ (zg_lays q hq)) (hts _ zl_i0) (h4 q hq).1 hA
  · show (if 10 + i < 4 then _ else if 10 + i = 4 then _ else if 10 + i < 30 then some (adK (10 + i - 10)) else _) = some (adK i)
    rw [if_neg (by omega), if_neg (by omega), if_pos (by omega), Nat.add_sub_cancel_left]
  · show (if 30 + i < 4 then _ else if 30 + i = 4 then _ else if 30 + i < 30 then _ else if 30 + i < 60 then some (adV (30 + i - 30)) else _) = some (adV i)
    rw [if_neg (by omega), if_neg (by omega), if_neg (by omega), if_pos (by omega), Nat.add_sub_cancel_left]
  · have hq : q < 13 := zat_lt hn
    have hnm : zstx.getD q (0, "") = (idx, tx) := by
      rw [zat_get] at hn
      simp [List.getD, hn]
    have h1 := hts _ (zg_sr q hq)
    have h2 := hS2 q hq
    unfold ztm at h2
    rw [hnm] at h1 h2
    refine ⟨adK q, ?_, ?_⟩
    · show (if 10 + q < 4 then _ else if 10 + q = 4 then _ else if 10 + q < 30 then some (adK (10 + q - 10)) else _) = some (adK q)
      rw [if_neg (by omega), if_neg (by omega), if_pos (by omega), Nat.add_sub_cancel_left]
    · exact ⟨zstr_any h1, zstr_ev h2⟩
theorem zK_start {b : Nat} {s : State} (hts : ∀ w ∈ lw_tbl, w.before #[Value.ref b] s = true) : ∃ (tc : Nat → ClassId) (D : va_G), va_K D vwCl (zTys tc) s := by
  have hc : ∀ k : Nat, ∃ z : ClassId × (Nat → Nat), ∀ q : vw_C, vwCl[k]? = some q → u_Kn s q.1 q.2.1 q.2.2 z.1 z.2 := by
    intro k
    by_cases hk : k < 7
    · have hq : vwCl[k]? = some vwCl[k] := List.getElem?_eq_getElem hk
      obtain ⟨g1, g2, -⟩ := zcls (C := vwCl[k].1) (T := vwCl[k].2.1) (N := vwCl[k].2.2) hq
      obtain ⟨cC, iS, h⟩ := u_known hts g1 (hts _ g2)
      refine ⟨(cC, iS), fun q hq2 => ?_⟩
      have : vwCl[k] = q := Option.some.inj (hq.symm.trans hq2)
      rw [← this]
      exact h
    · refine ⟨(0, fun _ => 0), fun q hq => ?_⟩
      have := (List.getElem?_eq_some_iff.mp hq).1
      exact absurd this hk
  obtain ⟨z, hz⟩ := Classical.axiomOfChoice hc
  have ha : ∀ ty : FieldType, (∀ C, ty ≠ .object C) → (Cond.arrayClass ty).before #[Value.ref b] s = true → ∃ cA, ArrOfT s cA ty ∧ s.vm.findClass ("[" ++ ty.toString) = some cA := by
    intro ty _ h
    obtain ⟨cA, kA, comp, h1, h2, h3⟩ := Cond.arrayClass_spec h
    exact ⟨cA, fun N z => ⟨(fun k h => by cases h), kA, h2, comp, h3⟩, h1⟩
  have ho : ∀ C : String, (Cond.arrayOver (.object C)).before #[Value.ref b] s = true → ∃ cA, ArrOfT s cA (.object C) ∧ va_RA s cA (.object C) := by
    intro C h
    obtain ⟨comp, cA, kA, h1, -, h3, h4, h5⟩ := Cond.arrayOver_spec h
    exact ⟨cA, fun N z => ⟨(fun k h => by cases h), kA, h3, comp, h4⟩, kA, comp, h3, h4, h1, h5⟩
  obtain ⟨c0, a0, b0⟩ := ha .int (fun _ h => by cases h) (hts _ zw_int)
  obtain ⟨c1, a1, b1⟩ := ha .long (fun _ h => by cases h) (hts _ zw_long)
  obtain ⟨c2, a2, b2⟩ := ha .byte (fun _ h => by cases h) (hts _ zw_byte)
  obtain ⟨c3, a3, b3⟩ := ho _ (hts _ zl_a3)
  obtain ⟨c4, a4, b4⟩ := ho _ (hts _ zl_a4)
  refine ⟨fun t => match t with | 0 => c0 | 1 => c1 | 2 => c2 | 3 => c3 | _ => c4, (fun k => (z k).1, fun k => (z k).2), fun k q hq => hz k q hq, fun k q hq => ?_⟩
  match k, hq with
  | 0, hq => cases hq; exact ⟨a0, b0⟩
  | 1, hq => cases hq; exact ⟨a1, b1⟩
  | 2, hq => cases hq; exact ⟨a2, b2⟩
  | 3, hq => cases hq; exact ⟨a3, b3⟩
  | 4, hq => cases hq; exact ⟨a4, b4⟩
  | k + 5, hq => simp [zTys] at hq
