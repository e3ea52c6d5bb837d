/-! what a state of the small machine means in the machine itself: cell k lies at base + k, constant q at kd q, arrays of sort t have class tc t -/
def zV (base : Nat) (kd : Nat → Option Nat) : Value → Value
  | .ref k => .ref (base + k)
  | .retAddr q => va_rf (kd q)
  | .int x => .int x
  | .long x => .long x
  | .float x => .float x
  | .double x => .double x
  | .null => .null
theorem zV_cat (base : Nat) (kd : Nat → Option Nat) (v : Value) : (zV base kd v).category = v.category := by
  cases v <;> try rfl
  rename_i q
  show (va_rf (kd q)).category = 1
  cases kd q <;> rfl
theorem zV_rf (base : Nat) (kd : Nat → Option Nat) (r : Option Nat) : zV base kd (va_rf r) = va_rf (r.map (base + ·)) := by cases r <;> rfl
theorem zcat_map (base : Nat) (kd : Nat → Option Nat) (r : List Value) : ((r.map (zV base kd)).map fun v => v.category).sum = zcat r := by
  unfold zcat
  induction r with
  | nil => rfl
  | cons v r ih => simp only [List.map_cons, List.sum_cons, zV_cat, ih]
def zE (base : Nat) (kd : Nat → Option Nat) (tc : Nat → ClassId) : va_E → va_E
  | .inl (t, n, .inr (.inr (.inr (.inr f)))) => .inl (tc t, n, .inr (.inr (.inr (.inr (fun i => (f i).map (base + ·))))))
  | .inl (t, n, a) => .inl (tc t, n, a)
  | .inr (ci, fs) => .inr (ci, fs.map (zV base kd))
def zws (base : Nat) (kd : Nat → Option Nat) (tc : Nat → ClassId) (w : zW) : va_W := (List.range w.1).map fun i => (base + i, zE base kd tc (w.2 i))
theorem zws_at {base : Nat} {kd : Nat → Option Nat} {tc : Nat → ClassId} {w : zW} (ho : ∀ a, w.1 ≤ a → w.2 a = .inr (99, [])) {a : Nat} {e : va_E} (h : w.2 a = e) (hn : e ≠ .inr (99, [])) : (zws base kd tc w)[a]? = some (base + a, zE base kd tc e) := by
  have hlt : a < w.1 := by
    rcases Nat.lt_or_ge a w.1 with q | q
    · exact q
    · exact absurd (h.symm.trans (ho a q)) hn
  unfold zws
  rw [List.getElem?_map, List.getElem?_range hlt, ← h]
  rfl
theorem zws_lt {w : zW} (ho : ∀ a, w.1 ≤ a → w.2 a = .inr (99, [])) {a : Nat} {e : va_E} (h : w.2 a = e) (hn : e ≠ .inr (99, [])) : a < w.1 := by
  rcases Nat.lt_or_ge a w.1 with q | q
  · exact q
  · exact absurd (h.symm.trans (ho a q)) hn
theorem zws_set (base : Nat) (kd : Nat → Option Nat) (tc : Nat → ClassId) (w : zW) (a : Nat) (e : va_E) : (zws base kd tc w).set a (base + a, zE base kd tc e) = zws base kd tc (zset w a e) := by
  unfold zws zset
  apply List.ext_getElem?
  intro i
  rw [List.getElem?_set, List.getElem?_map, List.getElem?_map]
  by_cases hi : i < w.1
  · rw [List.getElem?_range hi]
    by_cases ha : a = i
    · subst ha
      simp [hi, va_up]
    · have ha' : ¬ i = a := fun q => ha q.symm
      simp [ha, ha', va_up]
  · have h1 : (List.range w.1)[i]? = none := by simp; omega
    rw [h1]
    by_cases ha : a = i
    · subst ha
      simp [hi]
    · simp [ha]
theorem zws_push (base : Nat) (kd : Nat → Option Nat) (tc : Nat → ClassId) (w : zW) (e : va_E) : zws base kd tc (zpush w e) = zws base kd tc w ++ [(base + w.1, zE base kd tc e)] := by
  unfold zws zpush
  rw [List.range_succ, List.map_append]
  congr 1
  · apply List.map_congr_left
    intro i hi
    have hi' : i < w.1 := List.mem_range.mp hi
    have : ¬ i = w.1 := by omega
    simp [va_up, this]
  · simp [va_up]
theorem zws_D (base : Nat) (kd : Nat → Option Nat) (tc : Nat → ClassId) (w : zW) : va_D (fun q : Nat => base ≤ q) (zws base kd tc w) := by
  have key : ∀ (k : Nat) (q : Nat × va_E), (zws base kd tc w)[k]? = some q → q.1 = base + k := by
    intro k q h
    unfold zws at h
    rw [List.getElem?_map] at h
    by_cases hk : k < w.1
    · rw [List.getElem?_range hk] at h
      cases h
      rfl
    · have h1 : (List.range w.1)[k]? = none := by simp; omega
      rw [h1] at h
      cases h
  refine ⟨fun i j p q hi hj e => ?_, fun k q hk => ?_⟩
  · have a1 := key i p hi
    have a2 := key j q hj
    omega
  · show base ≤ q.1
    rw [key k q hk]
    omega
theorem zset_out {w : zW} (ho : ∀ a, w.1 ≤ a → w.2 a = .inr (99, [])) {a : Nat} (ha : a < w.1) (e : va_E) : ∀ b, (zset w a e).1 ≤ b → (zset w a e).2 b = .inr (99, []) := by
  intro b hb
  have : ¬ b = a := by
    have h1 : w.1 ≤ b := hb
    omega
  show (if b = a then e else w.2 b) = _
  rw [if_neg this]
  exact ho b hb
theorem zpush_out {w : zW} (ho : ∀ a, w.1 ≤ a → w.2 a = .inr (99, [])) (e : va_E) : ∀ b, (zpush w e).1 ≤ b → (zpush w e).2 b = .inr (99, []) := by
  intro b hb
  have h1 : w.1 + 1 ≤ b := hb
  have : ¬ b = w.1 := by omega
  show (if b = w.1 then e else w.2 b) = _
  rw [if_neg this]
  exact ho b (by omega)
/-! locals -/
def zH (base : Nat) (kd : Nat → Option Nat) (ls : Array Slot) (nL : Nat) (L : zL) : Prop := ls.size = nL ∧ lv_wf ls ∧ L.length = nL ∧ ∀ i v, zat L i = some (some v) → ls[i]? = some (.val (zV base kd v))
theorem zat_get {α : Type} : ∀ (l : List α) (i : Nat), zat l i = l[i]?
  | [], i => by simp [zat]
  | a :: l, 0 => by simp [zat]
  | a :: l, i + 1 => by simp [zat, zat_get l i]
theorem zH.forget {base : Nat} {kd : Nat → Option Nat} {ls : Array Slot} {nL : Nat} : ∀ {L L' : zL}, zsub L' L → zH base kd ls nL L → zH base kd ls nL L' := by
  have key : ∀ (L' L : zL), zsub L' L → L'.length = L.length ∧ ∀ i v, zat L' i = some (some v) → zat L i = some (some v) := by
    intro L'
    induction L' with
    | nil =>
      intro L h
      cases L with
      | nil => exact ⟨rfl, fun i v h => h⟩
      | cons x L => exact absurd h (by simp [zsub])
    | cons x L' ih =>
      intro L h
      cases L with
      | nil => cases x <;> exact absurd h (by simp [zsub])
      | cons y L =>
        cases x with
        | none =>
          have h' : zsub L' L := h
          obtain ⟨a1, a2⟩ := ih L h'
          refine ⟨by simp [a1], fun i v hi => ?_⟩
          cases i with
          | zero => simp [zat] at hi
          | succ i => exact a2 i v hi
        | some v0 =>
          have h' : y = some v0 ∧ zsub L' L := h
          obtain ⟨a1, a2⟩ := ih L h'.2
          refine ⟨by simp [a1], fun i v hi => ?_⟩
          cases i with
          | zero =>
            rw [h'.1]
            exact hi
          | succ i => exact a2 i v hi
  intro L L' h hH
  obtain ⟨k1, k2⟩ := key L' L h
  exact ⟨hH.1, hH.2.1, k1.trans hH.2.2.1, fun i v hi => hH.2.2.2 i v (k2 i v hi)⟩
/-- what is known, as the kit lists it -/
def zpr (base : Nat) (kd : Nat → Option Nat) (L : zL) : List (Nat × Value) := (List.range L.length).filterMap fun i => match zat L i with
  | some (some v) => some (i, zV base kd v)
  | _ => none
theorem zpr_mem {base : Nat} {kd : Nat → Option Nat} {L : zL} {q : Nat × Value} : q ∈ zpr base kd L ↔ ∃ v, zat L q.1 = some (some v) ∧ q.2 = zV base kd v := by
  unfold zpr
  rw [List.mem_filterMap]
  constructor
  · rintro ⟨i, hi, h⟩
    cases hz : zat L i with
    | none => rw [hz] at h; cases h
    | some x =>
      cases x with
      | none => rw [hz] at h; cases h
      | some v =>
        rw [hz] at h
        cases h
        exact ⟨v, hz, rfl⟩
  · rintro ⟨v, h1, h2⟩
    refine ⟨q.1, ?_, ?_⟩
    · rw [zat_get] at h1
      exact List.mem_range.mpr (List.getElem?_eq_some_iff.mp h1).1
    · rw [h1]
      show some (q.1, zV base kd v) = some q
      rw [← h2]
theorem zH.has {base : Nat} {kd : Nat → Option Nat} {ls : Array Slot} {nL : Nat} {L : zL} (h : zH base kd ls nL L) : lv_has ls nL (zpr base kd L) := by
  refine ⟨h.1, h.2.1, fun q hq => ?_⟩
  obtain ⟨v, h1, h2⟩ := zpr_mem.mp hq
  rw [h2]
  exact h.2.2.2 q.1 v h1
theorem zpv_ne {L : zL} {j k : Nat} {v : Value} (hp : zpv L k) (hj : j + 1 = k) (hv : zat L j = some (some v)) : v.category = 1 := by
  subst hj
  have h1 : (match zat L j with
    | some (some v) => v.category = 1
    | _ => True) := hp
  rw [hv] at h1
  exact h1
theorem zat_set {α : Type} {l : List α} {k i : Nat} {a b : α} (h : zat (l.set k a) i = some b) : (i = k ∧ b = a) ∨ (i ≠ k ∧ zat l i = some b) := by
  rw [zat_get, List.getElem?_set] at h
  by_cases hk : k = i
  · rw [if_pos hk] at h
    by_cases hl : k < l.length
    · rw [if_pos hl] at h
      cases h
      exact Or.inl ⟨hk.symm, rfl⟩
    · rw [if_neg hl] at h
      cases h
  · rw [if_neg hk] at h
    exact Or.inr ⟨fun e => hk e.symm, by rw [zat_get]; exact h⟩
theorem zH.put1 {base : Nat} {kd : Nat → Option Nat} {ls' : Array Slot} {nL k : Nat} {L : zL} {v : Value} (hc : v.category = 1) (hp : zpv L k) (hL : L.length = nL)
    (h : lv_has ls' nL ((k, zV base kd v) :: (zpr base kd L).filter (fun q => !(q.1 == k) && !(q.1 + 1 == k && q.2.category == 2)))) : zH base kd ls' nL (L.set k (some v)) := by
  refine ⟨h.1, h.2.1, by simp [hL], fun i x hi => ?_⟩
  rcases zat_set hi with ⟨rfl, e⟩ | ⟨hne, hi⟩
  · cases e
    exact h.2.2 (i, zV base kd v) List.mem_cons_self
  · refine h.2.2 (i, zV base kd x) (List.mem_cons_of_mem _ (List.mem_filter.mpr ⟨zpr_mem.mpr ⟨x, hi, rfl⟩, ?_⟩))
    simp only [Bool.and_eq_true, Bool.not_eq_true', beq_eq_false_iff_ne, ne_eq, Bool.and_eq_false_iff, zV_cat]
    refine ⟨hne, ?_⟩
    by_cases hj : i + 1 = k
    · right
      have := zpv_ne hp hj hi
      omega
    · exact Or.inl hj
theorem zH.put2 {base : Nat} {kd : Nat → Option Nat} {ls' : Array Slot} {nL k : Nat} {L : zL} {v : Value} (hp : zpv L k) (hL : L.length = nL)
    (h : lv_has ls' nL ((k, zV base kd v) :: (zpr base kd L).filter (fun q => !(q.1 == k) && (!(q.1 == k + 1) && !(q.1 + 1 == k && q.2.category == 2))))) : zH base kd ls' nL ((L.set k (some v)).set (k + 1) none) := by
  refine ⟨h.1, h.2.1, by simp [hL], fun i x hi => ?_⟩
  rcases zat_set hi with ⟨rfl, e⟩ | ⟨hne1, hi⟩
  · cases e
  rcases zat_set hi with ⟨rfl, e⟩ | ⟨hne, hi⟩
  · cases e
    exact h.2.2 (i, zV base kd v) List.mem_cons_self
  · refine h.2.2 (i, zV base kd x) (List.mem_cons_of_mem _ (List.mem_filter.mpr ⟨zpr_mem.mpr ⟨x, hi, rfl⟩, ?_⟩))
    simp only [Bool.and_eq_true, Bool.not_eq_true', beq_eq_false_iff_ne, ne_eq, Bool.and_eq_false_iff, zV_cat]
    refine ⟨hne, hne1, ?_⟩
    by_cases hj : i + 1 = k
    · right
      have := zpv_ne hp hj hi
      omega
    · exact Or.inl hj
