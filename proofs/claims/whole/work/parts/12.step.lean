/-! the words that go along into a call -/
def zmv : Cond → Bool
  | .arrayClass _ => true
  | .fieldLinkNest .. => true
  | .methodLinkNest .. => true
  | .arrayOver (.object _) => true
  | w => w.onTables && w.keeps
def zTB : List Cond := lw_tbl.filter zmv
theorem zin {w : Cond} (h : w ∈ lw_tbl) (hz : zmv w = true := by rfl) : w ∈ zTB := List.mem_filter.mpr ⟨h, hz⟩
theorem zuin {C : String} {T : u_T} {N : Nat} (h : ∀ w ∈ u_ws C T N, w ∈ lw_tbl) : ∀ w ∈ u_ws C T N, w ∈ zTB := by
  intro w hw
  obtain ⟨k, hk, rfl⟩ := List.mem_map.mp hw
  refine zin (h _ hw) ?_
  unfold u_lay
  split <;> rfl
theorem zmv_at {args a' : Array Value} {s U : State} (hW : s.WarmedH U.vm) {w : Cond} (hz : zmv w = true) (h : w.before args s = true) : w.before a' U = true := by
  cases w <;> first
    | exact word_at hW (Or.inl hz) h
    | exact word_at hW (Or.inr ⟨_, rfl⟩) h
    | exact va_Nw.use rfl (va_Nw.warmF hW (va_Nw.of rfl h))
    | exact va_Nw.use rfl (va_Nw.warmM hW (va_Nw.of rfl h))
    | skip
  rename_i ty
  cases ty <;> first | exact va_AO.moved hW.alike h | (simp [zmv, Cond.onTables] at hz; done)
theorem zTB_at {args a' : Array Value} {s U : State} (hW : s.WarmedH U.vm) (h : ∀ w ∈ zTB, w.before args s = true) : ∀ w ∈ zTB, w.before a' U = true := fun w hw => zmv_at hW (List.mem_filter.mp hw).2 (h w hw)
/-! one instruction of the small machine is one of the machine -/
def zTys (tc : Nat → ClassId) : List (ClassId × FieldType) := [(tc 0, .int), (tc 1, .long), (tc 2, .byte), (tc 3, .object "LastDays$Person"), (tc 4, .object "LastDays$Sheet")]
abbrev zAA (base : Nat) : Nat → Prop := fun q => base ≤ q
/-- the constants: int rows, the statics that hold them, the Strings -/
def zKon (base : Nat) (kd : Nat → Option Nat) (S : Nat × (Nat → Int32)) (U : State) (H : Heap) : Prop :=
  (∀ q, q < 5 → ∃ a, kd q = some a ∧ va_X a (zct S q).1 (zct S q).2 U H ∧ a < base) ∧ (∀ q nm, zat zsnm q = some nm → va_Z "LastDays" nm "[I" (va_rf (kd q)) (zAA base) U H) ∧
  (∃ adK adV, (∀ i, i < 13 → kd (10 + i) = some (adK i) ∧ kd (30 + i) = some (adV i)) ∧ vk_S 13 (zstrs.map List.length) zstrs adK adV (zAA base) U H) ∧ (∀ q idx tx, zat zstx q = some (idx, tx) → ∃ a, kd (10 + q) = some a ∧ vk_R "LastDays$Tape" idx tx a U) ∧
  va_Z "java/lang/String" "COMPACT_STRINGS" "Z" (.int 1) (zAA base) U H ∧ va_Z "jdk/internal/util/Preconditions" "SIOOBE_FORMATTER" "Ljava/util/function/BiFunction;" (va_rf (kd 60)) (zAA base) U H
theorem zKon.moved {base : Nat} {kd : Nat → Option Nat} {S : Nat × (Nat → Int32)} {s U : State} {H H1 : Heap} (hW : s.WarmedH U.vm) (hz : base ≤ H.size) (hq : ∀ a : Nat, a < base → H1[a]? = H[a]?) (h : zKon base kd S s H) : zKon base kd S U H1 := by
  obtain ⟨h1, h2, ⟨adK, adV, h3, h4⟩, h5, h6, h7⟩ := h
  have hq' : ∀ a : Nat, a < H.size → ¬ zAA base a → H1[a]? = H[a]? := fun a _ h => hq a (Nat.not_le.mp h)
  refine ⟨fun q hq0 => ?_, fun q nm hn => ((h2 q nm hn).kept hq').moved hW.alike, ⟨adK, adV, h3, (h4.kept hq').moved hW.alike⟩, fun q idx tx hn => ?_, (h6.kept hq').moved hW.alike, (h7.kept hq').moved hW.alike⟩
  · obtain ⟨a, a1, a2, a3⟩ := h1 q hq0
    exact ⟨a, a1, (a2.kept (hq _ a3)).moved hW.alike, a3⟩
  · obtain ⟨a, a1, a2⟩ := h5 q idx tx hn
    exact ⟨a, a1, a2.warm hW⟩
def zSt (base : Nat) (kd : Nat → Option Nat) (tc : Nat → ClassId) (D : va_G) (s : State) (R : Room) (nL : Nat) (H : Heap) (locs : List Loc) (cells slots : Nat) (ls : Array Slot) (X : zS) : Prop :=
  zH base kd ls nL X.2.1 ∧ va_P D vwCl (zws base kd tc X.2.2.2.2) H ∧ H.size = base + X.2.2.2.2.1 ∧ va_S (zAA base) s.heap H locs ∧ cells + X.2.2.2.1.1 ≤ R.cells ∧ slots + X.2.2.2.1.2 ≤ R.slots ∧ ∀ a, X.2.2.2.2.1 ≤ a → X.2.2.2.2.2 a = .inr (99, [])
def zCx (p : Program) (s : State) (m : MethodId) (args : Array Value) (meth : Method) (c : Code) (base : Nat) (kd : Nat → Option Nat) (tc : Nat → ClassId) (D : va_G) (S : Nat × (Nat → Int32)) (R : Room) (cc : ByteArray) (nL : Nat) (own : String) (cn : Nat) (g : Bool) : Prop :=
  p.tables.exec = Jvm.exec ∧ c.code = cc ∧ c.maxLocals = nL ∧ s.vm.findClass own = some m.cls ∧ (∀ w ∈ zTB, w.before args s = true) ∧ va_K D vwCl (zTys tc) s ∧ zKon base kd S s s.heap ∧ base ≤ s.heap.size ∧ zat zcn cn = some own ∧ (g = true → meth.name = "<init>") ∧ 8 ≤ R.frames ∧ 400 ≤ R.locals
theorem zfit_ok {base : Nat} {kd : Nat → Option Nat} {q : Nat} {ty : FieldType} {v : Value} (h1 : zsty q ty = true) (h2 : zfit q v) : narrow ty (zV base kd v) = zV base kd v ∧ fits ty (zV base kd v) = true := by
  match q, v, h2 with
  | 0, .int x, _ =>
    cases ty <;> first | (simp [zsty] at h1; done) | exact ⟨rfl, rfl⟩
  | 1, .long x, _ =>
    cases ty <;> first | (simp [zsty] at h1; done) | exact ⟨rfl, rfl⟩
  | 2, .int x, h =>
    cases ty <;> first | (simp [zsty] at h1; done) | skip
    have h' : x = 0 ∨ x = 1 := h
    rcases h' with rfl | rfl <;> exact ⟨rfl, rfl⟩
  | 3, .ref a, _ =>
    cases ty <;> first | (simp [zsty] at h1; done) | exact ⟨rfl, rfl⟩
  | 3, .null, _ =>
    cases ty <;> first | (simp [zsty] at h1; done) | exact ⟨rfl, rfl⟩
section ZST
variable {base : Nat} {kd : Nat → Option Nat} {tc : Nat → ClassId} {D : va_G} {s : State} {R : Room} {nL : Nat} {H : Heap} {locs : List Loc} {cells slots : Nat} {ls : Array Slot} {pc pc' : Nat} {L : zL} {st st' : List Value} {u : Nat × Nat} {w : zW}
theorem zSt.put {H1 : Heap} {a k : Nat} {e0 e1 : va_E} (h : zSt base kd tc D s R nL H locs cells slots ls (pc, L, st, u, w)) (ha : w.2 a = e0) (hn : e0 ≠ .inr (99, [])) (hat : va_at D vwCl (base + a, zE base kd tc e1) H1) (z : H1.size = H.size) (oq : ∀ q : Nat, q ≠ base + a → H1[q]? = H[q]?) :
    zSt base kd tc D s R nL H1 (locs ++ [⟨base + a, k⟩]) cells slots ls (pc', L, st', u, zset w a e1) := by
  obtain ⟨h1, h2, h3, h4, h5, h6, h7⟩ := h
  refine ⟨h1, ?_, z.trans h3, h4.put z oq (Nat.le_add_right base a), h5, h6, zset_out h7 (zws_lt h7 ha hn) e1⟩
  show va_P D vwCl (zws base kd tc (zset w a e1)) H1
  rw [← zws_set]
  exact h2.set (zws_D base kd tc w) (zws_at h7 ha hn) hat oq
theorem zSt.push {H1 : Heap} {n : Nat} {e1 : va_E} (h : zSt base kd tc D s R nL H locs cells slots ls (pc, L, st, u, w)) (hat : va_at D vwCl (base + w.1, zE base kd tc e1) H1) (z : H1.size = base + w.1 + 1) (oq : ∀ q : Nat, q < base + w.1 → H1[q]? = H[q]?) (hu1 : 1 ≤ u.1) (hu2 : n ≤ u.2) :
    zSt base kd tc D s R nL H1 locs (cells + 1) (slots + n) ls (pc', L, st', (u.1 - 1, u.2 - n), zpush w e1) := by
  obtain ⟨h1, h2, h3, h4, h5, h6, h7⟩ := h
  have h3' : H.size = base + w.1 := h3
  have h5' : cells + u.1 ≤ R.cells := h5
  have h6' : slots + u.2 ≤ R.slots := h6
  refine ⟨h1, ?_, by show H1.size = base + (w.1 + 1); omega, ⟨Nat.le_trans h4.1 (by omega), fun q g1 g2 => ?_, h4.2.2⟩, by show cells + 1 + (u.1 - 1) ≤ R.cells; omega, by show slots + n + (u.2 - n) ≤ R.slots; omega, zpush_out h7 e1⟩
  · show va_P D vwCl (zws base kd tc (zpush w e1)) H1
    rw [zws_push]
    refine va_P.app (h2.kept fun k x hx => oq x.1 ?_) (fun k x hx => ?_)
    · have := (h2 k x hx).lt
      omega
    · have hz : k < 1 := (List.getElem?_eq_some_iff.mp hx).1
      rw [show k = 0 by omega] at hx
      cases hx
      exact hat
  · rw [oq q (by have := h4.1; omega)]
    exact h4.2.1 q g1 g2
end ZST
