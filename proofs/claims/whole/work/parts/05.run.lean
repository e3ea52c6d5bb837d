/-! runs of the small machine: calls by contract, returns, and the least predicate that is closed under all of it -/
abbrev zQ : Type := Option Value → zW → Prop
abbrev zC : Type := Nat → List Value → zW → zQ → Prop
def zCl (C : zC) (c : Nat) (P : zS → Prop) (i : Instr) (n pc : Nat) (L : zL) (st : List Value) (u : Nat × Nat) (w : zW) : Prop :=
  ∃ (j : Nat) (q : zMI) (As r : List Value) (Q0 : zQ), zat zmt j = some q ∧ As.length = q.2.2.2.1 ∧ zcat r ≤ 8 ∧ q.2.2.2.2.2.1 ≤ u.1 ∧ q.2.2.2.2.2.2.1 ≤ u.2 ∧ n = 3 ∧
    (match i with
      | .invokevirtual idx => zlk zmlT c idx = some j ∧ q.2.1 = 0 ∧ ∃ v, st = As.reverse ++ v :: r ∧ ((∃ b fs, v = .ref b ∧ w.2 b = .inr (q.1, fs)) ∨ (∃ k, v = .retAddr (10 + k) ∧ k < 13 ∧ q.1 = 10)) ∧ C j (v :: As) w Q0
      | .invokespecial idx => zlk zmlT c idx = some j ∧ q.2.1 = 1 ∧ ∃ b, st = As.reverse ++ .ref b :: r ∧ C j (.ref b :: As) w Q0
      | .invokestatic idx => zlk zmlT c idx = some j ∧ q.2.1 = 2 ∧ st = As.reverse ++ r ∧ C j As w Q0
      | _ => False) ∧
    ∀ v w', Q0 v w' → P (pc + 3, L, v.toList ++ r, (u.1 - q.2.2.2.2.2.1, u.2 - q.2.2.2.2.2.2.1), w')
def zRt (rt : Nat) (Q : zQ) (i : Instr) (st : List Value) (w : zW) : Prop := match i with
  | .return_ => rt = 0 ∧ st = [] ∧ Q none w
  | .ireturn => ∃ v, st = [.int v] ∧ (rt = 1 ∨ (rt = 3 ∧ (v = 0 ∨ v = 1)) ∨ (rt = 4 ∧ narrow .char (.int v) = .int v) ∨ (rt = 5 ∧ narrow .byte (.int v) = .int v)) ∧ Q (some (.int v)) w
  | .lreturn => ∃ v, st = [.long v] ∧ rt = 2 ∧ Q (some (.long v)) w
  | _ => False
def zF (S : Nat × (Nat → Int32)) (C : zC) (c : Nat) (g : Bool) (rt : Nat) (K : zK) (Q : zQ) (P : zS → Prop) (X : zS) : Prop :=
  (∃ i n, zas K X.1 = some (i, n) ∧ ((∃ Y, zR S c g i n X.1 X.2.1 X.2.2.1 X.2.2.2.1 X.2.2.2.2 Y ∧ P Y) ∨ zCl C c P i n X.1 X.2.1 X.2.2.1 X.2.2.2.1 X.2.2.2.2 ∨ (n = 1 ∧ zRt rt Q i X.2.2.1 X.2.2.2.2))) ∨
  ∃ L', zsub L' X.2.1 ∧ P (X.1, L', X.2.2)
def Zw (S : Nat × (Nat → Int32)) (C : zC) (c : Nat) (g : Bool) (rt : Nat) (K : zK) (Q : zQ) (X : zS) : Prop := ∀ P : zS → Prop, (∀ Y, zF S C c g rt K Q P Y → P Y) → P X
def zen : List Value → zL
  | [] => []
  | v :: r => match v.category with
    | 2 => some v :: none :: zen r
    | _ => some v :: zen r
def zent (maxL : Nat) (As : List Value) : zL := zen As ++ List.replicate (maxL - (zen As).length) none
def Zc (S : Nat × (Nat → Int32)) : Nat → zC
  | 0 => fun _ _ _ _ => False
  | d + 1 => fun j As w Q => ∃ q : zMI, zat zmt j = some q ∧ (zen As).length ≤ q.2.2.2.2.1 ∧ Zw S (Zc S d) q.1 (q.2.1 == 1) q.2.2.1 q.2.2.2.2.2.2.2 Q (0, zent q.2.2.2.2.1 As, [], (q.2.2.2.2.2.1, q.2.2.2.2.2.2.1), w)
theorem zF_mono {S : Nat × (Nat → Int32)} {C : zC} {c : Nat} {g : Bool} {rt : Nat} {K : zK} {Q : zQ} {P P' : zS → Prop} {X : zS} (hP : ∀ Y, P Y → P' Y) (h : zF S C c g rt K Q P X) : zF S C c g rt K Q P' X := by
  rcases h with ⟨i, n, h1, h2⟩ | ⟨L', h1, h2⟩
  · refine Or.inl ⟨i, n, h1, ?_⟩
    rcases h2 with ⟨Y, h3, h4⟩ | ⟨j, q, As, r, Q0, a1, a2, a3, a4, a5, a6, a7, a8⟩ | h3
    · exact Or.inl ⟨Y, h3, hP _ h4⟩
    · exact Or.inr (Or.inl ⟨j, q, As, r, Q0, a1, a2, a3, a4, a5, a6, a7, fun v w' hv => hP _ (a8 v w' hv)⟩)
    · exact Or.inr (Or.inr h3)
  · exact Or.inr ⟨L', h1, hP _ h2⟩
theorem Zw.mk {S : Nat × (Nat → Int32)} {C : zC} {c : Nat} {g : Bool} {rt : Nat} {K : zK} {Q : zQ} {X : zS} (h : zF S C c g rt K Q (Zw S C c g rt K Q) X) : Zw S C c g rt K Q X :=
  fun P hP => hP _ (zF_mono (fun _ hY => hY P hP) h)
section ZS
variable {S : Nat × (Nat → Int32)} {C : zC} {c : Nat} {g : Bool} {rt : Nat} {K : zK} {Q : zQ} {pc : Nat} {L : zL} {st : List Value} {u : Nat × Nat} {w : zW} {i : Instr} {n : Nat}
theorem zs {Y : zS} (h : zas K pc = some (i, n)) (hR : zR S c g i n pc L st u w Y) (k : Zw S C c g rt K Q Y) : Zw S C c g rt K Q (pc, L, st, u, w) :=
  Zw.mk (Or.inl ⟨i, n, h, Or.inl ⟨Y, hR, k⟩⟩)
theorem zs_forget {L' : zL} (h : zsub L' L) (k : Zw S C c g rt K Q (pc, L', st, u, w)) : Zw S C c g rt K Q (pc, L, st, u, w) := Zw.mk (Or.inr ⟨L', h, k⟩)
theorem zs_ret (h : zas K pc = some (i, 1)) (hR : zRt rt Q i st w) : Zw S C c g rt K Q (pc, L, st, u, w) := Zw.mk (Or.inl ⟨i, 1, h, Or.inr (Or.inr ⟨rfl, hR⟩)⟩)
theorem zs_call (h : zas K pc = some (i, n)) (hR : zCl C c (Zw S C c g rt K Q) i n pc L st u w) : Zw S C c g rt K Q (pc, L, st, u, w) := Zw.mk (Or.inl ⟨i, n, h, Or.inr (Or.inl hR)⟩)
end ZS
