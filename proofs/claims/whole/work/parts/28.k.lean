/-! a class as it stands, told apart from where it lies: zCs; zXR: a Course of the class bears it -/
abbrev zCs : Type := Nat × Nat × Nat × Int32 × (Nat → Int32) × (Nat → Int32) × (Nat → Int32) × (Nat → Nat → Int32)
abbrev zCs.D (K : zCs) : Nat := K.1
abbrev zCs.M (K : zCs) : Nat := K.2.1
abbrev zCs.T (K : zCs) : Nat := K.2.2.1
abbrev zCs.z (K : zCs) : Int32 := K.2.2.2.1
abbrev zCs.law (K : zCs) : Nat → Int32 := K.2.2.2.2.1
abbrev zCs.dd (K : zCs) : Nat → Int32 := K.2.2.2.2.2.1
abbrev zCs.dp (K : zCs) : Nat → Int32 := K.2.2.2.2.2.2.1
abbrev zCs.p (K : zCs) : Nat → Nat → Int32 := K.2.2.2.2.2.2.2
abbrev zXR (ξ : Nat → Nat → Int32) (b : Nat) (K : zCs) : Prop := (ξ b 4 = nI K.D) ∧ (ξ b 5 = nI K.M) ∧ (ξ b 6 = nI K.T) ∧ (ξ b 7 = K.z) ∧ (∀ i, i < 5 → ξ (b + 1) i = K.law i) ∧ (∀ i, i < K.D → ξ (b + 2) i = K.dd i) ∧ (∀ i, i < K.D → ξ (b + 3) i = K.dp i) ∧ (∀ i, i < K.M → ∀ k, k < 7 → ξ (b + 5 + i) k = K.p i k)
theorem zXR.hd {ξ : Nat → Nat → Int32} {b : Nat} {K : zCs} (h : zXR ξ b K) : ξ b 4 = nI K.D := h.1
theorem zXR.hm {ξ : Nat → Nat → Int32} {b : Nat} {K : zCs} (h : zXR ξ b K) : ξ b 5 = nI K.M := h.2.1
theorem zXR.ht {ξ : Nat → Nat → Int32} {b : Nat} {K : zCs} (h : zXR ξ b K) : ξ b 6 = nI K.T := h.2.2.1
theorem zXR.hz {ξ : Nat → Nat → Int32} {b : Nat} {K : zCs} (h : zXR ξ b K) : ξ b 7 = K.z := h.2.2.2.1
theorem zXR.hl {ξ : Nat → Nat → Int32} {b : Nat} {K : zCs} (h : zXR ξ b K) : ∀ i, i < 5 → ξ (b + 1) i = K.law i := h.2.2.2.2.1
theorem zXR.hdd {ξ : Nat → Nat → Int32} {b : Nat} {K : zCs} (h : zXR ξ b K) : ∀ i, i < K.D → ξ (b + 2) i = K.dd i := h.2.2.2.2.2.1
theorem zXR.hdp {ξ : Nat → Nat → Int32} {b : Nat} {K : zCs} (h : zXR ξ b K) : ∀ i, i < K.D → ξ (b + 3) i = K.dp i := h.2.2.2.2.2.2.1
theorem zXR.hp {ξ : Nat → Nat → Int32} {b : Nat} {K : zCs} (h : zXR ξ b K) : ∀ i, i < K.M → ∀ k, k < 7 → ξ (b + 5 + i) k = K.p i k := h.2.2.2.2.2.2.2
def zsOK (work : Int32) (s : Int32 × Int32 × Int32) : Prop := 0 ≤ s.1.toInt ∧ s.1.toInt ≤ work.toInt ∧ (s.2.1 = -9 ∨ (s.1 = work ∧ 0 ≤ s.2.1.toInt ∧ s.2.1.toInt < 60))
abbrev zpOK (f : Nat → Int32) : Prop := (0 ≤ (f 0).toInt ∧ (f 0).toInt ≤ 5) ∧ (0 ≤ (f 1).toInt ∧ (f 1).toInt ≤ 9) ∧ (1 ≤ (f 2).toInt ∧ (f 2).toInt ≤ 99) ∧ (zsOK (f 2) (f 3, f 5, f 6))
theorem zpOK.h0 {f : Nat → Int32} (h : zpOK f) : 0 ≤ (f 0).toInt ∧ (f 0).toInt ≤ 5 := h.1
theorem zpOK.h1 {f : Nat → Int32} (h : zpOK f) : 0 ≤ (f 1).toInt ∧ (f 1).toInt ≤ 9 := h.2.1
theorem zpOK.h2 {f : Nat → Int32} (h : zpOK f) : 1 ≤ (f 2).toInt ∧ (f 2).toInt ≤ 99 := h.2.2.1
theorem zpOK.hs {f : Nat → Int32} (h : zpOK f) : zsOK (f 2) (f 3, f 5, f 6) := h.2.2.2
abbrev zOK (K : zCs) : Prop := (K.D ≤ 3) ∧ (K.M ≤ 6) ∧ (K.T ≤ 60) ∧ (1 ≤ (K.law 0).toInt ∧ (K.law 0).toInt ≤ 50) ∧ (1 ≤ (K.law 1).toInt ∧ (K.law 1).toInt ≤ 12) ∧ (0 ≤ (K.law 2).toInt ∧ (K.law 2).toInt ≤ 30) ∧ (0 ≤ (K.law 3).toInt ∧ (K.law 3).toInt ≤ 10) ∧ (0 ≤ (K.law 4).toInt ∧ (K.law 4).toInt ≤ 30) ∧ (∀ i, i < K.D → 0 ≤ (K.dd i).toInt ∧ (K.dd i).toInt < (K.law 0).toInt) ∧ (∀ i, i + 1 < K.D → (K.dd i).toInt < (K.dd (i + 1)).toInt) ∧ (∀ i, i < K.D → 1 ≤ (K.dp i).toInt ∧ (K.dp i).toInt ≤ 99) ∧ (∀ i, i < K.M → zpOK (K.p i))
theorem zOK.d3 {K : zCs} (h : zOK K) : K.D ≤ 3 := h.1
theorem zOK.m6 {K : zCs} (h : zOK K) : K.M ≤ 6 := h.2.1
theorem zOK.t60 {K : zCs} (h : zOK K) : K.T ≤ 60 := h.2.2.1
theorem zOK.l0 {K : zCs} (h : zOK K) : 1 ≤ (K.law 0).toInt ∧ (K.law 0).toInt ≤ 50 := h.2.2.2.1
theorem zOK.l1 {K : zCs} (h : zOK K) : 1 ≤ (K.law 1).toInt ∧ (K.law 1).toInt ≤ 12 := h.2.2.2.2.1
theorem zOK.l2 {K : zCs} (h : zOK K) : 0 ≤ (K.law 2).toInt ∧ (K.law 2).toInt ≤ 30 := h.2.2.2.2.2.1
theorem zOK.l3 {K : zCs} (h : zOK K) : 0 ≤ (K.law 3).toInt ∧ (K.law 3).toInt ≤ 10 := h.2.2.2.2.2.2.1
theorem zOK.l4 {K : zCs} (h : zOK K) : 0 ≤ (K.law 4).toInt ∧ (K.law 4).toInt ≤ 30 := h.2.2.2.2.2.2.2.1
theorem zOK.hdd {K : zCs} (h : zOK K) : ∀ i, i < K.D → 0 ≤ (K.dd i).toInt ∧ (K.dd i).toInt < (K.law 0).toInt := h.2.2.2.2.2.2.2.2.1
theorem zOK.hds {K : zCs} (h : zOK K) : ∀ i, i + 1 < K.D → (K.dd i).toInt < (K.dd (i + 1)).toInt := h.2.2.2.2.2.2.2.2.2.1
theorem zOK.hdp {K : zCs} (h : zOK K) : ∀ i, i < K.D → 1 ≤ (K.dp i).toInt ∧ (K.dp i).toInt ≤ 99 := h.2.2.2.2.2.2.2.2.2.2.1
theorem zOK.hp {K : zCs} (h : zOK K) : ∀ i, i < K.M → zpOK (K.p i) := h.2.2.2.2.2.2.2.2.2.2.2
def zCs.s (K : zCs) (i : Nat) : Int32 × Int32 × Int32 := (K.p i 3, K.p i 5, K.p i 6)
def zCs.lv (K : zCs) (i n T : Nat) : Int32 × Int32 × Int32 := zlvS K.dd K.dp K.D (K.law 0) (K.law 1) (K.p i 0) (K.p i 1) (K.p i 2) (K.p i 4) n T (K.s i)
def zput3 (f : Nat → Int32) (s : Int32 × Int32 × Int32) : Nat → Int32 := fun k => if k = 3 then s.1 else if k = 5 then s.2.1 else if k = 6 then s.2.2 else f k
def zCs.go (K : zCs) (E : Nat) : zCs := (K.D, K.M, E, K.z, K.law, K.dd, K.dp, fun i => zput3 (K.p i) (K.lv i (E - K.T) K.T))
def zCs.fin (K : zCs) (i : Nat) : zCs := (K.D, K.M, K.T, K.z, K.law, K.dd, K.dp, fun j => if j = i then zput3 (K.p i) (K.lv i (60 - K.T) K.T) else K.p j)
def zCs.mk' (K : zCs) (i : Nat) : Int32 := zmarkF (K.law 0) (K.law 2) (K.law 3) (K.law 4) (K.p i 5) (K.p i 6)
/-! only the DATES that there are count -/
theorem zgoalF_cg {dd dp dd2 dp2 : Nat → Int32} {work done day : Int32} : ∀ (n i : Nat), (∀ j, i ≤ j → j < i + n → dd j = dd2 j) → (∀ j, i ≤ j → j < i + n → dp j = dp2 j) → zgoalF dd dp work done day n i = zgoalF dd2 dp2 work done day n i
  | 0, _, _, _ => rfl
  | n + 1, i, h1, h2 => by
    unfold zgoalF
    rw [h1 i (by omega) (by omega), h2 i (by omega) (by omega), zgoalF_cg n (i + 1) (fun j a b => h1 j (by omega) (by omega)) (fun j a b => h2 j (by omega) (by omega))]
theorem zmissF_cg {dd dp dd2 dp2 : Nat → Int32} {work done day : Int32} : ∀ (n i : Nat) (m : Int32), (∀ j, i ≤ j → j < i + n → dd j = dd2 j) → (∀ j, i ≤ j → j < i + n → dp j = dp2 j) → zmissF dd dp work done day n i m = zmissF dd2 dp2 work done day n i m
  | 0, _, _, _, _ => rfl
  | n + 1, i, m, h1, h2 => by
    unfold zmissF
    rw [h1 i (by omega) (by omega), h2 i (by omega) (by omega), zmissF_cg n (i + 1) _ (fun j a b => h1 j (by omega) (by omega)) (fun j a b => h2 j (by omega) (by omega))]
theorem zgdayF_cg {dd dd2 : Nat → Int32} {D : Nat} {due : Int32} (h1 : ∀ i, i < D → dd i = dd2 i) (i : Nat) : zgdayF dd D due i = zgdayF dd2 D due i := by
  unfold zgdayF
  split
  · exact h1 i (by assumption)
  · rfl
theorem zghrsF_cg {dd dd2 : Nat → Int32} {D : Nat} {due : Int32} (h1 : ∀ i, i < D → dd i = dd2 i) (i : Nat) : zghrsF dd D due i = zghrsF dd2 D due i := by
  unfold zghrsF
  split
  · rw [h1 i (by assumption)]
  · rfl
theorem zgoalF_cg0 {dd dp dd2 dp2 : Nat → Int32} {D : Nat} {work : Int32} (h1 : ∀ i, i < D → dd i = dd2 i) (h2 : ∀ i, i < D → dp i = dp2 i) {done day : Int32} : zgoalF dd dp work done day D 0 = zgoalF dd2 dp2 work done day D 0 := zgoalF_cg D 0 (fun j _ b => h1 j (by omega)) (fun j _ b => h2 j (by omega))
theorem zhrsF_cg {dd dp dd2 dp2 : Nat → Int32} {D : Nat} {due most kind a work ill : Int32} (h1 : ∀ i, i < D → dd i = dd2 i) (h2 : ∀ i, i < D → dp i = dp2 i) {done day : Int32} : zhrsF dd dp D due most kind a work done ill day = zhrsF dd2 dp2 D due most kind a work done ill day := by
  unfold zhrsF zworkF
  rw [zgoalF_cg0 h1 h2, zgdayF_cg h1, zghrsF_cg h2]
theorem zdayS_cg {dd dp dd2 dp2 : Nat → Int32} {D : Nat} {due most kind a work ill : Int32} (h1 : ∀ i, i < D → dd i = dd2 i) (h2 : ∀ i, i < D → dp i = dp2 i) {day : Nat} {s : Int32 × Int32 × Int32} : zdayS dd dp D due most kind a work ill day s = zdayS dd2 dp2 D due most kind a work ill day s := by
  unfold zdayS zdoneF
  rw [zhrsF_cg h1 h2, zmissF_cg D 0 _ (fun j _ b => h1 j (by omega)) (fun j _ b => h2 j (by omega))]
theorem zlvS_cg {dd dp dd2 dp2 : Nat → Int32} {D : Nat} {due most kind a work ill : Int32} (h1 : ∀ i, i < D → dd i = dd2 i) (h2 : ∀ i, i < D → dp i = dp2 i) : ∀ (n day : Nat) (s : Int32 × Int32 × Int32), zlvS dd dp D due most kind a work ill n day s = zlvS dd2 dp2 D due most kind a work ill n day s
  | 0, _, _ => rfl
  | n + 1, day, s => by
    unfold zlvS
    rw [zdayS_cg h1 h2, zlvS_cg h1 h2 n]
theorem zgok_of {dd dd2 : Nat → Int32} {D : Nat} {due : Int32} (h1 : ∀ i, i < D → dd i = dd2 i) (h : zgok dd2 D due) : zgok dd D due := fun i => by
  rw [zgdayF_cg h1]
  exact h i
theorem zOK.gok {K : zCs} (h : zOK K) : zgok K.dd K.D (K.law 0) := fun i => by
  have := h.l0
  unfold zgdayF
  split
  · have := h.hdd i (by assumption)
    omega
  · omega
theorem zXR.gok {ξ : Nat → Nat → Int32} {b : Nat} {K : zCs} (h : zXR ξ b K) (hK : zOK K) : zgok (ξ (b + 2)) K.D (ξ (b + 1) 0) := by
  rw [h.hl 0 (by decide)]
  exact zgok_of h.hdd hK.gok
theorem zXR.lv {ξ : Nat → Nat → Int32} {b : Nat} {K : zCs} (h : zXR ξ b K) {i : Nat} (hi : i < K.M) (n T : Nat) : zlvP ξ b K.D (b + 5 + i) n T = K.lv i n T := by
  unfold zlvP zCs.lv zCs.s
  rw [zlvS_cg h.hdd h.hdp, h.hl 0 (by decide), h.hl 1 (by decide), h.hp i hi 0 (by decide), h.hp i hi 1 (by decide), h.hp i hi 2 (by decide), h.hp i hi 3 (by decide), h.hp i hi 4 (by decide), h.hp i hi 5 (by decide), h.hp i hi 6 (by decide)]
theorem zXR.fr {ξ ξ2 : Nat → Nat → Int32} {b : Nat} {K : zCs} (h : zXR ξ b K) (hM : K.M ≤ 6) (hf : ∀ a, b ≤ a → a < b + 11 → ξ2 a = ξ a) : zXR ξ2 b K :=
  ⟨by rw [hf b (by omega) (by omega)]; exact h.hd, by rw [hf b (by omega) (by omega)]; exact h.hm, by rw [hf b (by omega) (by omega)]; exact h.ht, by rw [hf b (by omega) (by omega)]; exact h.hz,
   by rw [hf _ (by omega) (by omega)]; exact h.hl, by rw [hf _ (by omega) (by omega)]; exact h.hdd, by rw [hf _ (by omega) (by omega)]; exact h.hdp, fun i hi => by rw [hf _ (by omega) (by omega)]; exact h.hp i hi⟩
theorem zRt_mono {rt : Nat} {Q Q2 : zQ} {i : Instr} {st : List Value} {w : zW} (hQ : ∀ r w, Q r w → Q2 r w) (h : zRt rt Q i st w) : zRt rt Q2 i st w := by
  unfold zRt at h ⊢
  split at h
  · exact ⟨h.1, h.2.1, hQ _ _ h.2.2⟩
  · obtain ⟨v, a1, a2, a3⟩ := h
    exact ⟨v, a1, a2, hQ _ _ a3⟩
  · obtain ⟨v, a1, a2, a3⟩ := h
    exact ⟨v, a1, a2, hQ _ _ a3⟩
  · exact h.elim
theorem Zw_mono {S : Nat × (Nat → Int32)} {C : zC} {c : Nat} {g : Bool} {rt : Nat} {K : zK} {Q Q2 : zQ} {X : zS} (h : Zw S C c g rt K Q X) (hQ : ∀ r w, Q r w → Q2 r w) : Zw S C c g rt K Q2 X := fun P hP => h P (fun Y hF => hP Y (by
  rcases hF with ⟨i, n, h1, h2 | h2 | h2⟩ | h2
  · exact Or.inl ⟨i, n, h1, Or.inl h2⟩
  · exact Or.inl ⟨i, n, h1, Or.inr (Or.inl h2)⟩
  · exact Or.inl ⟨i, n, h1, Or.inr (Or.inr ⟨h2.1, zRt_mono hQ h2.2⟩)⟩
  · exact Or.inr h2))
theorem Zc_mono {S : Nat × (Nat → Int32)} {d j : Nat} {As : List Value} {w : zW} {Q Q2 : zQ} (h : Zc S (d + 1) j As w Q) (hQ : ∀ r w, Q r w → Q2 r w) : Zc S (d + 1) j As w Q2 := by
  obtain ⟨q, h1, h2, h3⟩ := h
  exact ⟨q, h1, h2, Zw_mono h3 hQ⟩
/-! Courses again, told by zCs -/
section ZKC
variable {S : Nat × (Nat → Int32)} {d n : Nat} {ξ : Nat → Nat → Int32} {ρ : zRho} {b c : Nat} {K : zCs}
theorem k_copy (hb : zisC b) (hc : zisC c) (hne : b ≠ c) (h : zXR ξ c K) (hK : zOK K) : Zc S (d + 2) jX0_copyFrom [.ref b, .ref c] (zWof n ξ ρ) (fun r w => r = none ∧ ∃ ξ2, w = zWof n ξ2 ρ ∧ zXR ξ2 b K ∧ ∀ a, (a < b ∨ b + 11 ≤ a) → ξ2 a = ξ a) := by
  refine Zc_mono (d := d + 1) (c_copyCourse hb hc hne h.hm hK.m6) ?_
  rintro r w ⟨e1, ξ2, e2, f1, f2, f3, f4, f5, f6⟩
  have := hK.d3
  refine ⟨e1, ξ2, e2, ⟨?_, ?_, ?_, ?_, fun i hi => ?_, fun i hi => ?_, fun i hi => ?_, fun i hi k hk => ?_⟩, f6⟩
  · rw [f4 4 (by decide) (by decide)]; exact h.hd
  · rw [f4 5 (by decide) (by decide)]; exact h.hm
  · rw [f4 6 (by decide) (by decide)]; exact h.ht
  · rw [f4 7 (by decide) (by decide)]; exact h.hz
  · rw [f1 i hi]; exact h.hl i hi
  · rw [f2 i (by omega)]; exact h.hdd i hi
  · rw [f3 i (by omega)]; exact h.hdp i hi
  · rw [f5 i hi k hk]; exact h.hp i hi k hk
theorem k_goTo (hb : zisC b) (h : zXR ξ b K) (hK : zOK K) {E : Nat} (hTE : K.T ≤ E) (hE : E ≤ 60) : Zc S (d + 6) jX0_goTo [.ref b, .int (nI E)] (zWof n ξ ρ) (fun r w => r = none ∧ ∃ ξ2, w = zWof n ξ2 ρ ∧ zXR ξ2 b (K.go E) ∧ ∀ a, (a < b ∨ b + 11 ≤ a) → ξ2 a = ξ a) := by
  refine Zc_mono (d := d + 5) (c_goTo hb h.hd hK.d3 h.hm hK.m6 h.ht hTE hE (h.gok hK)) ?_
  rintro r w ⟨e1, ξ2, e2, f1, f2, f3, f4⟩
  have := hK.d3
  have := hK.m6
  refine ⟨e1, ξ2, e2, ⟨?_, ?_, ?_, ?_, fun i hi => ?_, fun i hi => ?_, fun i hi => ?_, fun i hi k hk => ?_⟩, fun a ha => f4 a (by omega) (fun i hi => by omega)⟩
  · rw [f3 4 (by decide)]; exact h.hd
  · rw [f3 5 (by decide)]; exact h.hm
  · exact f2
  · rw [f3 7 (by decide)]; exact h.hz
  · rw [f4 _ (by omega) (fun i hi => by omega)]; exact h.hl i hi
  · rw [f4 _ (by omega) (fun i hi => by omega)]; exact h.hdd i hi
  · rw [f4 _ (by omega) (fun i hi => by omega)]; exact h.hdp i hi
  · obtain ⟨g1, g2⟩ := f1 i hi
    rw [h.lv hi] at g2
    show _ = zput3 (K.p i) (K.lv i (E - K.T) K.T) k
    rw [← g2]
    unfold zput3
    by_cases k3 : k = 3
    · subst k3; rfl
    by_cases k5 : k = 5
    · subst k5; rfl
    by_cases k6 : k = 6
    · subst k6; rfl
    rw [if_neg k3, if_neg k5, if_neg k6, g1 k k3 k5 k6]
    exact h.hp i hi k hk
theorem k_finish (hb : zisC b) (h : zXR ξ b K) (hK : zOK K) {i : Nat} (hi : i < K.M) : Zc S (d + 6) jX0_finish [.ref b, .int (nI i)] (zWof n ξ ρ) (fun r w => r = some (.int ((K.fin i).mk' i)) ∧ ∃ ξ2, w = zWof n ξ2 ρ ∧ zXR ξ2 b (K.fin i) ∧ ∀ a, (a < b ∨ b + 11 ≤ a) → ξ2 a = ξ a) := by
  have := hK.d3
  have := hK.m6
  refine Zc_mono (d := d + 5) (c_finish hb h.hd hK.d3 (by omega) h.ht hK.t60 (h.gok hK)) ?_
  rintro r w ⟨e1, ξ2, e2, f1, f2, f4⟩
  rw [h.lv hi] at e1 f2
  refine ⟨?_, ξ2, e2, ⟨?_, ?_, ?_, ?_, fun i hi => ?_, fun i hi => ?_, fun i hi => ?_, fun j hj k hk => ?_⟩, fun a ha => f4 a (by omega)⟩
  · rw [e1]
    have e : (K.fin i).p i = zput3 (K.p i) (K.lv i (60 - K.T) K.T) := if_pos rfl
    unfold zmarkP zCs.mk'
    rw [e, h.hl 0 (by decide), h.hl 2 (by decide), h.hl 3 (by decide), h.hl 4 (by decide)]
    rfl
  · rw [f4 _ (by omega)]; exact h.hd
  · rw [f4 _ (by omega)]; exact h.hm
  · rw [f4 _ (by omega)]; exact h.ht
  · rw [f4 _ (by omega)]; exact h.hz
  · rw [f4 _ (by omega)]; exact h.hl i hi
  · rw [f4 _ (by omega)]; exact h.hdd i hi
  · rw [f4 _ (by omega)]; exact h.hdp i hi
  · show _ = (if j = i then zput3 (K.p i) (K.lv i (60 - K.T) K.T) else K.p j) k
    by_cases hji : j = i
    · subst hji
      rw [if_pos rfl, ← f2]
      unfold zput3
      by_cases k3 : k = 3
      · subst k3; rfl
      by_cases k5 : k = 5
      · subst k5; rfl
      by_cases k6 : k = 6
      · subst k6; rfl
      rw [if_neg k3, if_neg k5, if_neg k6, f1 k k3 k5 k6]
      exact h.hp j hj k hk
    · rw [if_neg hji, f4 _ (by omega)]
      exact h.hp j hj k hk
theorem zsumF_cg {f g : Nat → Int32} : ∀ M, (∀ i, i < M → f i = g i) → zsumF f M = zsumF g M
  | 0, _ => rfl
  | n + 1, h => by rw [zsumF, zsumF, zsumF_cg n (fun i hi => h i (by omega)), h n (by omega)]
theorem zorF_cg {f g : Nat → Prop} [DecidablePred f] [DecidablePred g] : ∀ M, (∀ i, i < M → (f i ↔ g i)) → zorF f M = zorF g M
  | 0, _ => rfl
  | n + 1, h => by
    have e := h n (by omega)
    rw [zorF, zorF, zorF_cg n (fun i hi => h i (by omega))]
    by_cases q : f n
    · rw [if_pos q, if_pos (e.mp q)]
    · rw [if_neg q, if_neg (fun z => q (e.mpr z))]
theorem zcntF_cg {f g : Nat → Prop} [DecidablePred f] [DecidablePred g] : ∀ M, (∀ i, i < M → (f i ↔ g i)) → zcntF f M = zcntF g M
  | 0, _ => rfl
  | n + 1, h => by
    have e := h n (by omega)
    rw [zcntF, zcntF, zcntF_cg n (fun i hi => h i (by omega))]
    by_cases q : f n
    · rw [if_pos q, if_pos (e.mp q)]
    · rw [if_neg q, if_neg (fun z => q (e.mpr z))]
def zCs.sum (K : zCs) : Int32 := zsumF (fun i => zpos0 (K.mk' i)) K.M
def zCs.lts (K : zCs) : Int32 := zorF (fun i => K.p i 5 = -9 ∨ K.law 0 < K.p i 5) K.M
theorem zXR.mk {ξ : Nat → Nat → Int32} (h : zXR ξ b K) {i : Nat} (hi : i < K.M) : zmarkP ξ b (ξ (b + 5 + i) 5) (ξ (b + 5 + i) 6) = K.mk' i := by
  unfold zmarkP zCs.mk'
  rw [h.hl 0 (by decide), h.hl 2 (by decide), h.hl 3 (by decide), h.hl 4 (by decide), h.hp i hi 5 (by decide), h.hp i hi 6 (by decide)]
theorem k_sum (hb : zisC b) (h : zXR ξ b K) (hM : K.M ≤ 6) : Zc S (d + 3) jX0_sumOfMarks [.ref b] (zWof n ξ ρ) (fun r w => r = some (.int K.sum) ∧ w = zWof n ξ ρ) := by
  refine Zc_mono (d := d + 2) (c_sumOfMarks hb h.hm hM) ?_
  rintro r w ⟨e1, e2⟩
  refine ⟨?_, e2⟩
  rw [e1, zCs.sum, zsumF_cg K.M (fun i hi => by rw [h.mk hi])]
theorem k_late (hb : zisC b) (h : zXR ξ b K) (hM : K.M ≤ 6) : Zc S (d + 2) jX0_lateSet [.ref b] (zWof n ξ ρ) (fun r w => r = some (.int K.lts) ∧ w = zWof n ξ ρ) := by
  refine Zc_mono (d := d + 1) (c_lateSet hb h.hm hM) ?_
  rintro r w ⟨e1, e2⟩
  refine ⟨?_, e2⟩
  rw [e1, zCs.lts, zorF_cg K.M (fun i hi => by rw [h.hp i hi 5 (by decide), h.hl 0 (by decide)])]
end ZKC
