theorem zXS.n70 {n : Nat} {ρ : zRho} {sh : zSh} {sl : zSl} (h : zXS n ρ sh sl) : 70 ≤ n := h.1
def zsheetF (sh : zSh) (x sort m : Int32) : zSh × Int32 := if ¬ ((0 ≤ x ∧ x < 4) ∧ -1 ≤ sort ∧ sort < 4) then (sh, -1) else if sort = -1 then (va_up sh x.toNatClampNeg none, 1) else if 40 < m then (sh, -1) else if m < 0 then (sh, -14) else (va_up sh x.toNatClampNeg (some (sort, m.toNatClampNeg, fun _ => 0)), 1)
def zputF (sh : zSh) (x i v : Int32) : zSh × Int32 := if ¬ (0 ≤ x ∧ x < 4) then (sh, -1) else match sh x.toNatClampNeg with
  | none => (sh, -11)
  | some s => if 0 ≤ i ∧ i < nI s.2.1 then (va_up sh x.toNatClampNeg (some (s.1, s.2.1, vp_updL s.2.2 i.toNatClampNeg (zcv s.1 v))), 1) else (sh, -12)
def zitemF (sh : zSh) (x sort i : Int32) : Int32 := if ¬ ((0 ≤ x ∧ x < 4) ∧ 0 ≤ sort ∧ sort < 4) then -1 else match sh x.toNatClampNeg with
  | none => -11
  | some s => if ¬ s.1 = sort then -13 else if 0 ≤ i ∧ i < nI s.2.1 then (s.2.2 i.toNatClampNeg).toInt32 else -12
def zc9 (v : Int32) : Int32 := if 0 < (if v < 9 then v else 9) then (if v < 9 then v else 9) else 0
def zmnd (K : zCs) (p i : Nat) (it : Nat → Int64) : Nat → zCs
  | 0 => K
  | k + 1 => (zmnd K p i it k).sp (p + k) 1 (zc9 (it (i + k)).toInt32)
def zmindsF (K : zCs) (sh : zSh) (x i p m : Int32) : zCs × Int32 := if ¬ ((0 ≤ x ∧ x < 4) ∧ (0 ≤ p ∧ p < nI K.M) ∧ 0 ≤ m ∧ m ≤ 6 ∧ m ≤ nI K.M - p) then (K, -1) else match sh x.toNatClampNeg with
  | none => (K, -11)
  | some s => if ¬ s.1 = 0 then (K, -13) else if i < 0 ∨ nI s.2.1 - m < i then (K, -12) else (zmnd K p.toNatClampNeg i.toNatClampNeg s.2.2 m.toNatClampNeg, m)
abbrev zthing (K : zCs) (what v : Int32) : Prop := (what = 0 ∧ 0 ≤ v ∧ v < nI K.M) ∨ (what = 1 ∧ 0 ≤ v ∧ v < 4) ∨ what = 2
def zshrow (sh : zSh) (i : Nat) : Option (Int32 × Nat) := match sh i with
  | none => none
  | some s => some (s.1, s.2.1)
def zshelfF (K : zCs) (sh : zSh) (hp : Nat → Int32) (sl : zSl) (x what v : Int32) : (Nat → Int32) × zSl × Int32 := if ¬ ((0 ≤ x ∧ x < 4) ∧ zthing K what v) then (hp, sl, -1) else (upd hp x.toNatClampNeg (if what = 0 then v else -1), va_up sl x.toNatClampNeg (if what = 1 then zshrow sh v.toNatClampNeg else none), 1)
def zpon (K : zCs) (hp : Nat → Int32) (i : Nat) : Int32 := if 0 ≤ hp i ∧ hp i < nI K.M then hp i else -1
def zka (k : Int32) : Int32 := if k = 0 then -1 else if k = 3 then 1 else if k = 4 then 2 else 0
def zofk : Nat → Int32 → Int32 → Bool
  | 0, _, _ => false
  | n + 1, k, a => decide (0 ≤ k) && (decide (k = a) || zofk n (zka k) a)
abbrev zasr (a : Int32) : Prop := 10 ≤ a ∧ a < 14
def ztakenF (K : zCs) (hp : Nat → Int32) (sl : zSl) (x a : Int32) : Int32 := if ¬ ((0 ≤ x ∧ x < 4) ∧ (zasr a ∨ (0 ≤ a ∧ a < 6))) then -1 else match sl x.toNatClampNeg with
  | some s => if zasr a ∧ s.1 = a - 10 then nI s.2 else -13
  | none => if zpon K hp x.toNatClampNeg = -1 then -11 else if ¬ zasr a ∧ zofk 6 (K.p (zpon K hp x.toNatClampNeg).toNatClampNeg 0) a = true then zpon K hp x.toNatClampNeg else -13
theorem zxsh {n : Nat} {ρ : zRho} {sh : zSh} {sl : zSl} (hS : zXS n ρ sh sl) {i : Nat} (hi : i < 4) : (ρ.2.2.2.1 i = none ∧ sh i = none) ∨ ∃ a sort size it, ρ.2.2.2.1 i = some a ∧ sh i = some (sort, size, it) ∧ zsAt n ρ a sort size it := hS.2.2.1 i hi
theorem zxsl {n : Nat} {ρ : zRho} {sh : zSh} {sl : zSl} (hS : zXS n ρ sh sl) {i : Nat} (hi : i < 4) : (ρ.2.2.2.2.1 i = none ∧ sl i = none) ∨ ∃ a sort size it, ρ.2.2.2.2.1 i = some a ∧ sl i = some (sort, size) ∧ zsAt n ρ a sort size it := hS.2.2.2.1 i hi
theorem zsAt.grow {n n2 a size : Nat} {ρ ρ2 : zRho} {sort : Int32} {it : Nat → Int64} (h : zsAt n ρ a sort size it) (hn : n ≤ n2) (e : ∀ b, b < n → ρ2.2.2.2.2.2 b = ρ.2.2.2.2.2 b) : zsAt n2 ρ2 a sort size it :=
  ⟨h.1, h.2.1, by have := h.2.2.1; omega, h.2.2.2.1, h.2.2.2.2.1, by rw [e a (by have := h.2.2.1; omega)]; exact h.2.2.2.2.2.1, by rw [e (a + 1) h.2.2.1]; exact h.2.2.2.2.2.2⟩
/-- a SHEET gets none -/
theorem zXS.no {n : Nat} {ρ : zRho} {sh : zSh} {sl : zSl} (h : zXS n ρ sh sl) (i : Nat) : zXS n (zρs ρ (va_up ρ.2.2.2.1 i none)) (va_up sh i none) sl := by
  obtain ⟨h1, h2, h3, h4, h5⟩ := h
  refine ⟨h1, h2, fun j hj => ?_, h4, fun j k a hj hk e1 e2 => ?_⟩
  · by_cases q : j = i
    · subst q
      exact Or.inl ⟨va_up_self _ _ _, va_up_self _ _ _⟩
    · rcases h3 j hj with ⟨a1, a2⟩ | ⟨a, s, z, it, a1, a2, a3⟩
      · exact Or.inl ⟨(va_up_ne _ _ q).trans a1, (va_up_ne _ _ q).trans a2⟩
      · exact Or.inr ⟨a, s, z, it, (va_up_ne _ _ q).trans a1, (va_up_ne _ _ q).trans a2, a3⟩
  · have e1 : va_up ρ.2.2.2.1 i none j = some a := e1
    have e2 : va_up ρ.2.2.2.1 i none k = some a := e2
    have q1 : j ≠ i := fun q => by
      subst q
      rw [va_up_self] at e1
      cases e1
    have q2 : k ≠ i := fun q => by
      subst q
      rw [va_up_self] at e2
      cases e2
    rw [va_up_ne _ _ q1] at e1
    rw [va_up_ne _ _ q2] at e2
    exact h5 j k a hj hk e1 e2
/-- a SHEET gets a row that is new -/
theorem zXS.new {n : Nat} {ρ ρ2 : zRho} {sh : zSh} {sl : zSl} (h : zXS n ρ sh sl) (i : Nat) {sort : Int32} {m : Nat} (hm : m ≤ 40) (hs : 0 ≤ sort ∧ sort ≤ 3) (e4 : ρ2.2.2.2.1 = va_up ρ.2.2.2.1 i (some n)) (e5 : ρ2.2.2.2.2.1 = ρ.2.2.2.2.1) (e6 : ∀ b, b < n → ρ2.2.2.2.2.2 b = ρ.2.2.2.2.2 b) (e7 : ρ2.2.2.2.2.2 n = zob 2 [.int sort, .ref (n + 1)]) (e8 : ρ2.2.2.2.2.2 (n + 1) = zal m (fun _ => 0)) : zXS (n + 2) ρ2 (va_up sh i (some (sort, m, fun _ => 0))) sl := by
  obtain ⟨h1, h2, h3, h4, h5⟩ := h
  refine ⟨by omega, by omega, fun j hj => ?_, fun j hj => ?_, fun j k a hj hk q1 q2 => ?_⟩
  · rw [e4]
    by_cases q : j = i
    · subst q
      exact Or.inr ⟨n, sort, m, _, va_up_self _ _ _, va_up_self _ _ _, h1, h2, by omega, hm, hs, e7, e8⟩
    · rcases h3 j hj with ⟨a1, a2⟩ | ⟨a, s, z, it, a1, a2, a3⟩
      · exact Or.inl ⟨(va_up_ne _ _ q).trans a1, (va_up_ne _ _ q).trans a2⟩
      · exact Or.inr ⟨a, s, z, it, (va_up_ne _ _ q).trans a1, (va_up_ne _ _ q).trans a2, a3.grow (by omega) e6⟩
  · rw [e5]
    rcases h4 j hj with a1 | ⟨a, s, z, it, a1, a2, a3⟩
    · exact Or.inl a1
    · exact Or.inr ⟨a, s, z, it, a1, a2, a3.grow (by omega) e6⟩
  · rw [e4] at q1 q2
    have below : ∀ j a, j < 4 → ρ.2.2.2.1 j = some a → a < n := fun j a hj e => by
      rcases h3 j hj with ⟨a1, _⟩ | ⟨a', s, z, it, a1, a2, a3⟩
      · rw [a1] at e
        cases e
      · rw [a1] at e
        cases e
        have := a3.2.2.1
        omega
    by_cases p1 : j = i
    · subst p1
      rw [va_up_self] at q1
      cases q1
      by_cases p2 : k = j
      · exact p2.symm
      · rw [va_up_ne _ _ p2] at q2
        exact absurd (below k _ hk q2) (by omega)
    · rw [va_up_ne _ _ p1] at q1
      by_cases p2 : k = i
      · subst p2
        rw [va_up_self] at q2
        cases q2
        exact absurd (below j _ hj q1) (by omega)
      · rw [va_up_ne _ _ p2] at q2
        exact h5 j k a hj hk q1 q2
/-- items of a SHEET anew -/
theorem zXS.put {n : Nat} {ρ : zRho} {sh : zSh} {sl : zSl} (h : zXS n ρ sh sl) {i a size : Nat} {sort : Int32} {it it2 : Nat → Int64} (hi : i < 4) (e : ρ.2.2.2.1 i = some a) (hA : zsAt n ρ a sort size it) : zXS n (zρt ρ (a + 1) (zal size it2)) (va_up sh i (some (sort, size, it2))) sl := by
  obtain ⟨h1, h2, h3, h4, h5⟩ := h
  have stay : ∀ b s z t, zsAt n ρ b s z t → b ≠ a → zsAt n (zρt ρ (a + 1) (zal size it2)) b s z t := fun b s z t q hne => by
    obtain ⟨b1, b2, b3, b4, b5, b6, b7⟩ := q
    have := hA.2.1
    refine ⟨b1, b2, b3, b4, b5, ?_, ?_⟩
    · show va_up _ _ _ _ = _
      rw [va_up_ne _ _ (by omega)]
      exact b6
    · show va_up _ _ _ _ = _
      rw [va_up_ne _ _ (by omega)]
      exact b7
  have own : zsAt n (zρt ρ (a + 1) (zal size it2)) a sort size it2 := by
    obtain ⟨b1, b2, b3, b4, b5, b6, b7⟩ := hA
    refine ⟨b1, b2, b3, b4, b5, ?_, va_up_self _ _ _⟩
    show va_up _ _ _ _ = _
    rw [va_up_ne _ _ (by omega)]
    exact b6
  refine ⟨h1, h2, fun j hj => ?_, fun j hj => ?_, h5⟩
  · by_cases q : j = i
    · subst q
      exact Or.inr ⟨a, sort, size, it2, e, va_up_self _ _ _, own⟩
    · rcases h3 j hj with ⟨a1, a2⟩ | ⟨b, s, z, t, a1, a2, a3⟩
      · exact Or.inl ⟨a1, (va_up_ne _ _ q).trans a2⟩
      · refine Or.inr ⟨b, s, z, t, a1, (va_up_ne _ _ q).trans a2, stay b s z t a3 ?_⟩
        intro hba
        subst hba
        exact q (h5 j i b hj hi a1 e)
  · rcases h4 j hj with a1 | ⟨b, s, z, t, a1, a2, a3⟩
    · exact Or.inl a1
    · by_cases q : b = a
      · subst q
        have e1 := hA.2.2.2.2.2.1.symm.trans a3.2.2.2.2.2.1
        have e2 := hA.2.2.2.2.2.2.symm.trans a3.2.2.2.2.2.2
        have e3 : sort = s := by injections
        have e4 : size = z := congrArg (fun q => q.2.1) (Sum.inl.inj e2)
        subst e3
        subst e4
        exact Or.inr ⟨b, sort, size, it2, a1, a2, own⟩
      · exact Or.inr ⟨b, s, z, t, a1, a2, stay b s z t a3 q⟩
/-- a shelf anew -/
theorem zXS.shelf {n : Nat} {ρ : zRho} {sh : zSh} {sl : zSl} (h : zXS n ρ sh sl) (i : Nat) {b : Option Nat} {s : Option (Int32 × Nat)} (hb : (b = none ∧ s = none) ∨ ∃ a sort size it, b = some a ∧ s = some (sort, size) ∧ zsAt n ρ a sort size it) : zXS n (zρl ρ (va_up ρ.2.2.2.2.1 i b)) sh (va_up sl i s) := by
  obtain ⟨h1, h2, h3, h4, h5⟩ := h
  refine ⟨h1, h2, h3, fun j hj => ?_, h5⟩
  by_cases q : j = i
  · subst q
    rcases hb with ⟨a1, a2⟩ | ⟨a, so, z, it, a1, a2, a3⟩
    · exact Or.inl ⟨(va_up_self _ _ _).trans a1, (va_up_self _ _ _).trans a2⟩
    · exact Or.inr ⟨a, so, z, it, (va_up_self _ _ _).trans a1, (va_up_self _ _ _).trans a2, a3⟩
  · rcases h4 j hj with ⟨a1, a2⟩ | ⟨a, so, z, it, a1, a2, a3⟩
    · exact Or.inl ⟨(va_up_ne _ _ q).trans a1, (va_up_ne _ _ q).trans a2⟩
    · exact Or.inr ⟨a, so, z, it, (va_up_ne _ _ q).trans a1, (va_up_ne _ _ q).trans a2, a3⟩
set_option maxRecDepth 20000 in
set_option maxHeartbeats 1000000 in
theorem c_sheet {S : Nat × (Nat → Int32)} {d n : Nat} {ξ : Nat → Nat → Int32} {ρ : zRho} {sh : zSh} {sl : zSl} (hS : zXS n ρ sh sl) (x sort m : Int32) : Zc S (d + 2) jX5_sheet [.ref 0, .int x, .int sort, .int m] (zWof n ξ ρ) (fun r w => ∃ n2 ρ2, w = zWof n2 ξ ρ2 ∧ r = some (.int (zsheetF sh x sort m).2) ∧ zXS n2 ρ2 (zsheetF sh x sort m).1 sl ∧ (ρ2.1, ρ2.2.1, ρ2.2.2.1) = (ρ.1, ρ.2.1, ρ.2.2.1)) := by
  refine Zc_in (q := (5, 0, 1, 3, 4, 2, 42, zk_X5_sheet)) rfl (Nat.le_of_ble_eq_true rfl) (L := [_, _, _, _]) rfl ?_
  refine zr_iload_n 1 rfl rfl rfl ?_
  refine zr_calls 4 (As := [_]) (u2 := (2, 42)) rfl rfl rfl rfl rfl rfl rfl (Nat.le_of_ble_eq_true rfl) (Nat.le_of_ble_eq_true rfl) (Nat.le_of_ble_eq_true rfl) (c_isSheet _) rfl (fun v2 w2 h1z => ?_)
  obtain ⟨rfl, rfl⟩ := h1z
  refine zr_if_eq 17 7 rfl rfl (by decide) (fun c4z => ?_) (fun c4z => ?_)
  · replace c4z := zb_0.mp c4z
    refine zr_iconst 18 (x := (-1)) rfl rfl (by decide) ?_
    refine zr_iret rfl rfl ?_
    refine ⟨n, ρ, rfl, ?_⟩
    rw [show zsheetF sh x sort m = _ from if_pos (fun z => c4z z.1)]
    exact ⟨rfl, hS, rfl⟩
  · replace c4z := zb_n0.mp c4z
    refine zr_iload_n 8 rfl rfl rfl ?_
    refine zr_iconst 9 (x := (-1)) rfl rfl (by decide) ?_
    refine zr_icmp_lt 17 12 rfl rfl (by decide) (fun c9z => ?_) (fun c9z => ?_)
    · refine zr_iconst 18 (x := (-1)) rfl rfl (by decide) ?_
      refine zr_iret rfl rfl ?_
      refine ⟨n, ρ, rfl, ?_⟩
      rw [show zsheetF sh x sort m = _ from if_pos (fun z => absurd z.2.1 (Int32.not_le.mpr c9z))]
      exact ⟨rfl, hS, rfl⟩
    · refine zr_iload_n 13 rfl rfl rfl ?_
      refine zr_iconst 14 (x := 4) rfl rfl (by decide) ?_
      refine zr_icmp_lt 19 17 rfl rfl (by decide) (fun c14z => ?_) (fun c14z => ?_)
      · obtain ⟨i, hi, rfl⟩ := zperI (M := 4) rfl (by decide) c4z
        have hc : ¬ ¬ ((0 ≤ nI i ∧ nI i < 4) ∧ -1 ≤ sort ∧ sort < 4) := fun z => z ⟨⟨nI_pos' (by omega), nI_lt (b := 4) hi (by omega)⟩, Int32.not_lt.mp c9z, c14z⟩
        refine zr_iload_n 20 rfl rfl rfl ?_
        refine zr_iconst 21 (x := (-1)) rfl rfl (by decide) ?_
        refine zr_icmp_ne 33 24 rfl rfl (by decide) (fun c21z => ?_) (fun c21z => ?_)
        · refine zr_iload_n 34 rfl rfl rfl ?_
          refine zr_bipush 36 (x := 40) rfl rfl (by decide) ?_
          refine zr_icmp_le 41 39 rfl rfl (by decide) (fun c36z => ?_) (fun c36z => ?_)
          · refine zr_iload_n 42 rfl rfl rfl ?_
            refine zr_if_ge 48 45 rfl rfl (by decide) (fun c42z => ?_) (fun c42z => ?_)
            · obtain ⟨mm, hmm, rfl⟩ := zbetI (k := 40) rfl (by decide) c42z c36z
              have hsr : 0 ≤ sort ∧ sort ≤ 3 := by
                have a1 := Int32.le_iff_toInt_le.mp (Int32.not_lt.mp c9z)
                have a2 := Int32.lt_iff_toInt_lt.mp c14z
                have a3 := zne_i c21z
                rw [show (-1 : Int32).toInt = -1 by decide] at a1 a3
                rw [show (4 : Int32).toInt = 4 by decide] at a2
                exact ⟨Int32.le_iff_toInt_le.mpr (by rw [zI0]; omega), Int32.le_iff_toInt_le.mpr (by rw [zL3]; omega)⟩
              have c42zn : ¬ nI mm < 0 := Int32.not_lt.mpr c42z
              have hn := hS.n70
              refine zr_aload_n 49 rfl rfl rfl trivial ?_
              refine zr_getf 52 rfl rfl rfl rfl rfl ?_
              refine zr_iload_n 53 rfl rfl rfl ?_
              refine zr_new 56 (fs := [.int 0, .null]) (u2 := (1, 40)) rfl rfl rfl rfl (by decide) (by decide) rfl (zW_p hS.n70) ?_
              refine zr_dup 57 rfl rfl rfl ?_
              refine zr_iload_n 58 rfl rfl rfl ?_
              refine zr_iload_n 59 rfl rfl rfl ?_
              refine zr_newa_long 61 (m := mm) (u2 := (0, 40 - mm)) rfl rfl c42zn (nI_clamp (by omega)) (by omega) (by decide) hmm rfl (zW_p (by have := hS.n70; omega)) ?_
              refine zr_calli 64 (As := [_, _]) (u2 := (0, 40 - mm)) rfl rfl rfl rfl rfl rfl rfl (Nat.le_of_ble_eq_true rfl) (Nat.zero_le _) (Nat.zero_le _) (c_sheetInit hS.n70 (by
                  show va_up (va_up _ _ _) _ _ n = _
                  rw [va_up_ne _ _ (by omega), va_up_self]) _) rfl (fun v2 w2 h61z => ?_)
              obtain ⟨rfl, rfl⟩ := h61z
              refine zr_aast 65 (b := some n) (i := i) rfl rfl rfl rfl (nI_clamp (by omega)) (vp_in_nI (by omega) (by omega)) (Or.inr rfl) (fun y e => by
                  cases e
                  refine ⟨_, (zc_hi hS.n70).trans (va_up_self _ _ _)⟩) (zW_ρs rfl) ?_
              refine zr_iconst 66 (x := 1) rfl rfl (by decide) ?_
              refine zr_iret rfl rfl ?_
              refine ⟨n + 1 + 1, _, rfl, ?_⟩
              rw [show zsheetF sh (nI i) sort (nI mm) = _ from (if_neg hc).trans ((if_neg c21z).trans ((if_neg (Int32.not_lt.mpr c36z)).trans (if_neg c42zn))), nI_clamp (by omega), nI_clamp (by omega)]
              refine ⟨rfl, hS.new i hmm hsr rfl rfl (fun b hb => ?_) ?_ ?_, rfl⟩
              · show va_up (va_up (va_up _ _ _) _ _) _ _ b = _
                rw [va_up_ne _ _ (by omega), va_up_ne _ _ (by omega), va_up_ne _ _ (by omega)]
              · show va_up (va_up (va_up _ _ _) _ _) _ _ n = _
                rw [va_up_self]
                rfl
              · show va_up (va_up (va_up _ _ _) _ _) _ _ (n + 1) = _
                rw [va_up_ne _ _ (by omega), va_up_self]
            · refine zr_bipush 47 (x := (-14)) rfl rfl (by decide) ?_
              refine zr_iret rfl rfl ?_
              refine ⟨n, ρ, rfl, ?_⟩
              rw [show zsheetF sh (nI i) sort m = _ from (if_neg hc).trans ((if_neg c21z).trans ((if_neg (Int32.not_lt.mpr c36z)).trans (if_pos (Int32.not_le.mp c42z))))]
              exact ⟨rfl, hS, rfl⟩
          · refine zr_iconst 40 (x := (-1)) rfl rfl (by decide) ?_
            refine zr_iret rfl rfl ?_
            refine ⟨n, ρ, rfl, ?_⟩
            rw [show zsheetF sh (nI i) sort m = _ from (if_neg hc).trans ((if_neg c21z).trans (if_pos (Int32.not_le.mp c36z)))]
            exact ⟨rfl, hS, rfl⟩
        · refine zr_aload_n 25 rfl rfl rfl trivial ?_
          refine zr_getf 28 rfl rfl rfl rfl rfl ?_
          refine zr_iload_n 29 rfl rfl rfl ?_
          refine zr_aconst_null 30 rfl rfl ?_
          refine zr_aast 31 (b := none) (i := i) rfl rfl rfl rfl (nI_clamp (by omega)) (vp_in_nI (by omega) (by omega)) (Or.inr rfl) (fun y e => by cases e) (zW_ρs rfl) ?_
          refine zr_iconst 32 (x := 1) rfl rfl (by decide) ?_
          refine zr_iret rfl rfl ?_
          refine ⟨n, _, rfl, ?_⟩
          rw [show zsheetF sh (nI i) sort m = _ from (if_neg hc).trans (if_pos c21z), nI_clamp (by omega)]
          exact ⟨rfl, hS.no i, rfl⟩
      · refine zr_iconst 18 (x := (-1)) rfl rfl (by decide) ?_
        refine zr_iret rfl rfl ?_
        refine ⟨n, ρ, rfl, ?_⟩
        rw [show zsheetF sh x sort m = _ from if_pos (fun z => c14z z.2.2)]
        exact ⟨rfl, hS, rfl⟩
set_option maxRecDepth 20000 in
set_option maxHeartbeats 1000000 in
theorem c_put {S : Nat × (Nat → Int32)} {d n : Nat} {ξ : Nat → Nat → Int32} {ρ : zRho} {sh : zSh} {sl : zSl} (hS : zXS n ρ sh sl) (x i v : Int32) : Zc S (d + 2) jX5_put [.ref 0, .int x, .int i, .int v] (zWof n ξ ρ) (fun r w => ∃ ρ2, w = zWof n ξ ρ2 ∧ r = some (.int (zputF sh x i v).2) ∧ zXS n ρ2 (zputF sh x i v).1 sl ∧ (ρ2.1, ρ2.2.1, ρ2.2.2.1) = (ρ.1, ρ.2.1, ρ.2.2.1)) := by
  refine Zc_in (q := (5, 0, 1, 3, 5, 0, 0, zk_X5_put)) rfl (Nat.le_of_ble_eq_true rfl) (L := [_, _, _, _, _]) rfl ?_
  refine zr_iload_n 1 rfl rfl rfl ?_
  refine zr_calls 4 (As := [_]) (u2 := (0, 0)) rfl rfl rfl rfl rfl rfl rfl (Nat.le_of_ble_eq_true rfl) (Nat.le_of_ble_eq_true rfl) (Nat.le_of_ble_eq_true rfl) (c_isSheet _) rfl (fun v2 w2 h1z => ?_)
  obtain ⟨rfl, rfl⟩ := h1z
  refine zr_if_ne 9 7 rfl rfl (by decide) (fun c4z => ?_) (fun c4z => ?_)
  · replace c4z := zb_n0.mp c4z
    obtain ⟨k, hi, rfl⟩ := zperI (M := 4) rfl (by decide) c4z
    have hc : ¬ ¬ (0 ≤ nI k ∧ nI k < 4) := fun z => z c4z
    refine Zw_mono (Q := fun r w => ∃ ρ2, w = zWof n ξ ρ2 ∧ (match sh k with
      | none => (sh, -11)
      | some s => if 0 ≤ i ∧ i < nI s.2.1 then (va_up sh k (some (s.1, s.2.1, vp_updL s.2.2 i.toNatClampNeg (zcv s.1 v))), 1) else (sh, -12)) = (zputF sh (nI k) i v) ∧ r = some (.int (zputF sh (nI k) i v).2) ∧ zXS n ρ2 (zputF sh (nI k) i v).1 sl ∧ (ρ2.1, ρ2.2.1, ρ2.2.2.1) = (ρ.1, ρ.2.1, ρ.2.2.1)) ?_ (fun r w q => by
      obtain ⟨ρ2, q1, _, q2⟩ := q
      exact ⟨ρ2, q1, q2⟩)
    have hq : zputF sh (nI k) i v = (match sh k with
      | none => (sh, -11)
      | some s => if 0 ≤ i ∧ i < nI s.2.1 then (va_up sh k (some (s.1, s.2.1, vp_updL s.2.2 i.toNatClampNeg (zcv s.1 v))), 1) else (sh, -12)) := by
      unfold zputF
      rw [if_neg hc, nI_clamp (by omega)]
    rw [hq]
    refine zr_aload_n 10 rfl rfl rfl trivial ?_
    refine zr_getf 13 rfl rfl rfl rfl rfl ?_
    refine zr_iload_n 14 rfl rfl rfl ?_
    rcases zxsh hS hi with ⟨e1, e2⟩ | ⟨a, so, sz, it, e1, e2, hA⟩
    · rw [e2]
      refine zr_aald 15 rfl rfl rfl (by decide) (nI_clamp (by omega)) (vp_in_nI (by omega) (by omega)) (show va_rf _ = .null by rw [e1] <;> rfl) ?_
      refine zr_astore 17 (L2 := [_, _, _, _, _]) rfl rfl trivial (Nat.le_of_ble_eq_true rfl) (by first | exact trivial | exact rfl) rfl ?_
      refine zr_aload 19 rfl rfl rfl trivial ?_
      refine zr_ifnonnull_n 25 22 rfl rfl (by decide) ?_
      refine zr_bipush 24 (x := (-11)) rfl rfl (by decide) ?_
      refine zr_iret rfl rfl ?_
      exact ⟨ρ, rfl, rfl, rfl, hS, rfl⟩
    · rw [e2]
      refine zr_aald 15 rfl rfl rfl (by decide) (nI_clamp (by omega)) (vp_in_nI (by omega) (by omega)) (show va_rf _ = .ref a by rw [e1] <;> rfl) ?_
      refine zr_astore 17 (L2 := [_, _, _, _, _]) rfl rfl trivial (Nat.le_of_ble_eq_true rfl) (by first | exact trivial | exact rfl) rfl ?_
      refine zr_aload 19 rfl rfl rfl trivial ?_
      refine zr_ifnonnull_r 25 rfl (by decide) ?_
      refine zr_aload 27 rfl rfl rfl trivial ?_
      refine zr_iload_n 28 rfl rfl rfl ?_
      refine zr_callv 31 (As := [_]) (u2 := (0, 0)) rfl rfl rfl rfl rfl rfl rfl (Nat.le_of_ble_eq_true rfl) (Nat.le_of_ble_eq_true rfl) (Nat.le_of_ble_eq_true rfl) ((zc_hi hA.1).trans hA.2.2.2.2.2.1) (c_hasItem hA _) rfl (fun v2 w2 h28z => ?_)
      obtain ⟨rfl, rfl⟩ := h28z
      refine zr_if_ne 37 34 rfl rfl (by decide) (fun c31z => ?_) (fun c31z => ?_)
      · replace c31z := zb_n0.mp c31z
        refine zr_aload 39 rfl rfl rfl trivial ?_
        refine zr_getf 42 rfl rfl rfl ((zc_hi hA.1).trans hA.2.2.2.2.2.1) rfl ?_
        refine zr_iload_n 43 rfl rfl rfl ?_
        refine zr_aload 45 rfl rfl rfl trivial ?_
        refine zr_iload_n 46 rfl rfl rfl ?_
        refine zr_callv 49 (As := [_]) (u2 := (0, 0)) rfl rfl rfl rfl rfl rfl rfl (Nat.le_of_ble_eq_true rfl) (Nat.le_of_ble_eq_true rfl) (Nat.le_of_ble_eq_true rfl) ((zc_hi hA.1).trans hA.2.2.2.2.2.1) (c_narrowed hA _) rfl (fun v2 w2 h46z => ?_)
        obtain ⟨rfl, rfl⟩ := h46z
        have hin : vp_in i sz := zpin c31z (by have := hA.2.2.2.1; omega) (Nat.le_refl _)
        refine zr_last 50 rfl rfl ((zc_hi (by have := hA.1; omega)).trans hA.2.2.2.2.2.2) rfl hin (zW_t (by have := hA.1; omega)) ?_
        refine zr_iconst 51 (x := 1) rfl rfl (by decide) ?_
        refine zr_iret rfl rfl ?_
        refine ⟨_, rfl, rfl, ?_⟩
        simp only [if_pos c31z]
        exact ⟨trivial, hS.put hi e1 hA, trivial⟩
      · replace c31z := zb_0.mp c31z
        refine zr_bipush 36 (x := (-12)) rfl rfl (by decide) ?_
        refine zr_iret rfl rfl ?_
        refine ⟨ρ, rfl, rfl, ?_⟩
        simp only [if_neg c31z]
        exact ⟨trivial, hS, trivial⟩
  · replace c4z := zb_0.mp c4z
    refine zr_iconst 8 (x := (-1)) rfl rfl (by decide) ?_
    refine zr_iret rfl rfl ?_
    refine ⟨ρ, rfl, ?_⟩
    rw [show zputF sh x i v = _ from if_pos c4z]
    exact ⟨rfl, hS, rfl⟩
set_option maxRecDepth 20000 in
set_option maxHeartbeats 1000000 in
theorem c_item {S : Nat × (Nat → Int32)} {d n : Nat} {ξ : Nat → Nat → Int32} {ρ : zRho} {sh : zSh} {sl : zSl} (hS : zXS n ρ sh sl) (x sort i : Int32) : Zc S (d + 2) jX5_item [.ref 0, .int x, .int sort, .int i] (zWof n ξ ρ) (fun r w => r = some (.int (zitemF sh x sort i)) ∧ w = zWof n ξ ρ) := by
  refine Zc_in (q := (5, 0, 1, 3, 5, 0, 0, zk_X5_item)) rfl (Nat.le_of_ble_eq_true rfl) (L := [_, _, _, _, _]) rfl ?_
  refine zr_iload_n 1 rfl rfl rfl ?_
  refine zr_calls 4 (As := [_]) (u2 := (0, 0)) rfl rfl rfl rfl rfl rfl rfl (Nat.le_of_ble_eq_true rfl) (Nat.le_of_ble_eq_true rfl) (Nat.le_of_ble_eq_true rfl) (c_isSheet _) rfl (fun v2 w2 h1z => ?_)
  obtain ⟨rfl, rfl⟩ := h1z
  refine zr_if_eq 16 7 rfl rfl (by decide) (fun c4z => ?_) (fun c4z => ?_)
  · replace c4z := zb_0.mp c4z
    refine zr_iconst 17 (x := (-1)) rfl rfl (by decide) ?_
    refine zr_iret rfl rfl ?_
    refine ⟨?_, rfl⟩
    rw [show zitemF sh x sort i = _ from if_pos (fun z => c4z z.1)]
  · replace c4z := zb_n0.mp c4z
    refine zr_iload_n 8 rfl rfl rfl ?_
    refine zr_if_lt 16 11 rfl rfl (by decide) (fun c8z => ?_) (fun c8z => ?_)
    · refine zr_iconst 17 (x := (-1)) rfl rfl (by decide) ?_
      refine zr_iret rfl rfl ?_
      refine ⟨?_, rfl⟩
      rw [show zitemF sh x sort i = _ from if_pos (fun z => absurd z.2.1 (Int32.not_le.mpr c8z))]
    · refine zr_iload_n 12 rfl rfl rfl ?_
      refine zr_iconst 13 (x := 4) rfl rfl (by decide) ?_
      refine zr_icmp_lt 18 16 rfl rfl (by decide) (fun c13z => ?_) (fun c13z => ?_)
      · obtain ⟨k, hi, rfl⟩ := zperI (M := 4) rfl (by decide) c4z
        have hc : ¬ ¬ ((0 ≤ nI k ∧ nI k < 4) ∧ 0 ≤ sort ∧ sort < 4) := fun z => z ⟨c4z, Int32.not_lt.mp c8z, c13z⟩
        have hq : zitemF sh (nI k) sort i = (match sh k with
          | none => -11
          | some s => if ¬ s.1 = sort then -13 else if 0 ≤ i ∧ i < nI s.2.1 then (s.2.2 i.toNatClampNeg).toInt32 else -12) := by
          unfold zitemF
          rw [if_neg hc, nI_clamp (by omega)]
        rw [hq]
        refine zr_aload_n 19 rfl rfl rfl trivial ?_
        refine zr_getf 22 rfl rfl rfl rfl rfl ?_
        refine zr_iload_n 23 rfl rfl rfl ?_
        rcases zxsh hS hi with ⟨e1, e2⟩ | ⟨a, so, sz, it, e1, e2, hA⟩
        · rw [e2]
          refine zr_aald 24 rfl rfl rfl (by decide) (nI_clamp (by omega)) (vp_in_nI (by omega) (by omega)) (show va_rf _ = .null by rw [e1] <;> rfl) ?_
          refine zr_astore 26 (L2 := [_, _, _, _, _]) rfl rfl trivial (Nat.le_of_ble_eq_true rfl) (by first | exact trivial | exact rfl) rfl ?_
          refine zr_aload 28 rfl rfl rfl trivial ?_
          refine zr_ifnonnull_n 34 31 rfl rfl (by decide) ?_
          refine zr_bipush 33 (x := (-11)) rfl rfl (by decide) ?_
          refine zr_iret rfl rfl ?_
          exact ⟨rfl, rfl⟩
        · rw [e2]
          refine zr_aald 24 rfl rfl rfl (by decide) (nI_clamp (by omega)) (vp_in_nI (by omega) (by omega)) (show va_rf _ = .ref a by rw [e1] <;> rfl) ?_
          refine zr_astore 26 (L2 := [_, _, _, _, _]) rfl rfl trivial (Nat.le_of_ble_eq_true rfl) (by first | exact trivial | exact rfl) rfl ?_
          refine zr_aload 28 rfl rfl rfl trivial ?_
          refine zr_ifnonnull_r 34 rfl (by decide) ?_
          refine zr_aload 36 rfl rfl rfl trivial ?_
          refine zr_getf 39 rfl rfl rfl ((zc_hi hA.1).trans hA.2.2.2.2.2.1) rfl ?_
          refine zr_iload_n 40 rfl rfl rfl ?_
          refine zr_icmp_eq 46 43 rfl rfl (by decide) (fun c40z => ?_) (fun c40z => ?_)
          · refine zr_aload 48 rfl rfl rfl trivial ?_
            refine zr_iload_n 49 rfl rfl rfl ?_
            refine zr_callv 52 (As := [_]) (u2 := (0, 0)) rfl rfl rfl rfl rfl rfl rfl (Nat.le_of_ble_eq_true rfl) (Nat.le_of_ble_eq_true rfl) (Nat.le_of_ble_eq_true rfl) ((zc_hi hA.1).trans hA.2.2.2.2.2.1) (c_hasItem hA _) rfl (fun v2 w2 h49z => ?_)
            obtain ⟨rfl, rfl⟩ := h49z
            refine zr_if_eq 66 55 rfl rfl (by decide) (fun c52z => ?_) (fun c52z => ?_)
            · replace c52z := zb_0.mp c52z
              refine zr_bipush 68 (x := (-12)) rfl rfl (by decide) ?_
              refine zr_iret rfl rfl ?_
              refine ⟨?_, rfl⟩
              show _ = some (Value.int (if ¬ so = sort then -13 else if 0 ≤ i ∧ i < nI sz then (it i.toNatClampNeg).toInt32 else -12))
              rw [if_neg (Decidable.not_not.mpr c40z), if_neg c52z]
            · replace c52z := zb_n0.mp c52z
              refine zr_aload 57 rfl rfl rfl trivial ?_
              refine zr_getf 60 rfl rfl rfl ((zc_hi hA.1).trans hA.2.2.2.2.2.1) rfl ?_
              refine zr_iload_n 61 rfl rfl rfl ?_
              refine zr_lald 62 rfl rfl ((zc_hi (by have := hA.1; omega)).trans hA.2.2.2.2.2.2) rfl (zpin c52z (by have := hA.2.2.2.1; omega) (Nat.le_refl _)) ?_
              refine zr_l2i 63 rfl rfl ?_
              refine zr_goto 68 rfl (by decide) ?_
              refine zr_iret rfl rfl ?_
              refine ⟨?_, rfl⟩
              show _ = some (Value.int (if ¬ so = sort then -13 else if 0 ≤ i ∧ i < nI sz then (it i.toNatClampNeg).toInt32 else -12))
              rw [if_neg (Decidable.not_not.mpr c40z), if_pos c52z]
          · refine zr_bipush 45 (x := (-13)) rfl rfl (by decide) ?_
            refine zr_iret rfl rfl ?_
            refine ⟨?_, rfl⟩
            simp only [if_pos c40z]
      · refine zr_iconst 17 (x := (-1)) rfl rfl (by decide) ?_
        refine zr_iret rfl rfl ?_
        refine ⟨?_, rfl⟩
        rw [show zitemF sh x sort i = _ from if_pos (fun z => c13z z.2.2)]
set_option maxRecDepth 20000 in
set_option maxHeartbeats 1000000 in
theorem c_isThingFor {S : Nat × (Nat → Int32)} {d n : Nat} {ξ : Nat → Nat → Int32} {ρ : zRho} {K : zCs} (h : zXR ξ 1 K) (a v : Int32) : Zc S (d + 2) jX5_isThingFor [.ref 0, .int a, .int v] (zWof n ξ ρ) (fun r w => r = some (.int (zb (zthing K a v))) ∧ w = zWof n ξ ρ) := by
  refine Zc_in (q := (5, 0, 3, 2, 3, 0, 0, zk_X5_isThingFor)) rfl (Nat.le_of_ble_eq_true rfl) (L := [_, _, _]) rfl ?_
  refine zr_iload_n 1 rfl rfl rfl ?_
  by_cases s1_0 : a = 0
  · refine zr_lsw 28 (off := 27) rfl rfl (by rw [s1_0] <;> rfl) (by decide) ?_
    refine zr_aload_n 29 rfl rfl rfl trivial ?_
    refine zr_iload_n 30 rfl rfl rfl ?_
    refine zr_callv 33 (As := [_]) (u2 := (0, 0)) rfl rfl rfl rfl rfl rfl rfl (Nat.le_of_ble_eq_true rfl) (Nat.le_of_ble_eq_true rfl) (Nat.le_of_ble_eq_true rfl) rfl (c_isPerson _) rfl (fun v2 w2 h30z => ?_)
    obtain ⟨rfl, rfl⟩ := h30z
    refine zr_zret rfl rfl (zb_01 _) ?_
    refine ⟨?_, rfl⟩
    rw [zb_c (show (0 ≤ v ∧ v < ξ 1 5) ↔ zthing K a v by rw [h.hm]; exact ⟨fun q => Or.inl ⟨s1_0, q⟩, fun q => by rcases q with ⟨_, q⟩ | ⟨e, _⟩ | e <;> first | exact q | (rw [s1_0] at e; exact absurd e (by decide))⟩)]
  by_cases s1_1 : a = 1
  · refine zr_lsw 34 (off := 33) rfl rfl (by rw [s1_1] <;> rfl) (by decide) ?_
    refine zr_iload_n 35 rfl rfl rfl ?_
    refine zr_calls 38 (As := [_]) (u2 := (0, 0)) rfl rfl rfl rfl rfl rfl rfl (Nat.le_of_ble_eq_true rfl) (Nat.le_of_ble_eq_true rfl) (Nat.le_of_ble_eq_true rfl) (c_isSheet _) rfl (fun v2 w2 h35z => ?_)
    obtain ⟨rfl, rfl⟩ := h35z
    refine zr_zret rfl rfl (zb_01 _) ?_
    refine ⟨?_, rfl⟩
    rw [zb_c (show (0 ≤ v ∧ v < 4) ↔ zthing K a v by exact ⟨fun q => Or.inr (Or.inl ⟨s1_1, q⟩), fun q => by rcases q with ⟨e, _⟩ | ⟨_, q⟩ | e <;> first | exact q | (rw [s1_1] at e; exact absurd e (by decide))⟩)]
  refine zr_lsw 39 (off := 38) rfl rfl (by rw [lv_osw s1_0 (by decide), lv_osw s1_1 (by decide)] <;> rfl) (by decide) ?_
  refine zr_iload_n 40 rfl rfl rfl ?_
  refine zr_iconst 41 (x := 2) rfl rfl (by decide) ?_
  refine zr_icmp_ne 48 44 rfl rfl (by decide) (fun c41z => ?_) (fun c41z => ?_)
  · refine zr_iconst 49 (x := 0) rfl rfl (by decide) ?_
    refine zr_zret rfl rfl (Or.inl rfl) ?_
    refine ⟨?_, rfl⟩
    rw [zb_f (by rintro (⟨e, _⟩ | ⟨e, _⟩ | e); exact s1_0 e; exact s1_1 e; exact c41z e)]
  · refine zr_iconst 45 (x := 1) rfl rfl (by decide) ?_
    refine zr_goto 49 rfl (by decide) ?_
    refine zr_zret rfl rfl (Or.inr rfl) ?_
    refine ⟨?_, rfl⟩
    rw [zb_t (Or.inr (Or.inr c41z))]
set_option maxRecDepth 20000 in
set_option maxHeartbeats 1000000 in
theorem c_personOn {S : Nat × (Nat → Int32)} {d n : Nat} {ξ : Nat → Nat → Int32} {ρ : zRho} {K : zCs} (h : zXR ξ 1 K) {i : Nat} (hi : i < 4) : Zc S (d + 2) jX5_personOn [.ref 0, .int (nI i)] (zWof n ξ ρ) (fun r w => r = some (.int (zpon K (ξ 39) i)) ∧ w = zWof n ξ ρ) := by
  refine Zc_in (q := (5, 0, 1, 1, 2, 0, 0, zk_X5_personOn)) rfl (Nat.le_of_ble_eq_true rfl) (L := [_, _]) rfl ?_
  refine zr_aload_n 1 rfl rfl rfl trivial ?_
  refine zr_aload_n 2 rfl rfl rfl trivial ?_
  refine zr_getf 5 rfl rfl rfl rfl rfl ?_
  refine zr_iload_n 6 rfl rfl rfl ?_
  refine zr_iald 7 rfl rfl rfl (nI_clamp (by omega)) (vp_in_nI (by omega) (by omega)) ?_
  refine zr_callv 10 (As := [_]) (u2 := (0, 0)) rfl rfl rfl rfl rfl rfl rfl (Nat.le_of_ble_eq_true rfl) (Nat.le_of_ble_eq_true rfl) (Nat.le_of_ble_eq_true rfl) rfl (c_isPerson _) rfl (fun v2 w2 h7z => ?_)
  obtain ⟨rfl, rfl⟩ := h7z
  refine zr_if_eq 22 13 rfl rfl (by decide) (fun c10z => ?_) (fun c10z => ?_)
  · replace c10z := zb_0.mp c10z
    refine zr_iconst 23 (x := (-1)) rfl rfl (by decide) ?_
    refine zr_iret rfl rfl ?_
    refine ⟨?_, rfl⟩
    unfold zpon
    rw [h.hm] at c10z
    rw [if_neg c10z]
  · replace c10z := zb_n0.mp c10z
    refine zr_aload_n 14 rfl rfl rfl trivial ?_
    refine zr_getf 17 rfl rfl rfl rfl rfl ?_
    refine zr_iload_n 18 rfl rfl rfl ?_
    refine zr_iald 19 rfl rfl rfl (nI_clamp (by omega)) (vp_in_nI (by omega) (by omega)) ?_
    refine zr_goto 23 rfl (by decide) ?_
    refine zr_iret rfl rfl ?_
    refine ⟨?_, rfl⟩
    unfold zpon
    rw [h.hm] at c10z
    rw [if_pos c10z]
set_option maxRecDepth 20000 in
set_option maxHeartbeats 1000000 in
theorem c_shelf {S : Nat × (Nat → Int32)} {d n : Nat} {ξ : Nat → Nat → Int32} {ρ : zRho} {K : zCs} (h : zXR ξ 1 K) {sh : zSh} {sl : zSl} (hS : zXS n ρ sh sl) (x a v : Int32) : Zc S (d + 3) jX5_shelf [.ref 0, .int x, .int a, .int v] (zWof n ξ ρ) (fun r w => ∃ ξ2 ρ2, w = zWof n ξ2 ρ2 ∧ r = some (.int (zshelfF K sh (ξ 39) sl x a v).2.2) ∧ ξ2 39 = (zshelfF K sh (ξ 39) sl x a v).1 ∧ zXS n ρ2 sh (zshelfF K sh (ξ 39) sl x a v).2.1 ∧ (ρ2.1, ρ2.2.1, ρ2.2.2.1) = (ρ.1, ρ.2.1, ρ.2.2.1) ∧ ∀ b, b ≠ 39 → ξ2 b = ξ b) := by
  refine Zc_in (q := (5, 0, 1, 3, 4, 0, 0, zk_X5_shelf)) rfl (Nat.le_of_ble_eq_true rfl) (L := [_, _, _, _]) rfl ?_
  refine zr_iload_n 1 rfl rfl rfl ?_
  refine zr_calls 4 (As := [_]) (u2 := (0, 0)) rfl rfl rfl rfl rfl rfl rfl (Nat.le_of_ble_eq_true rfl) (Nat.le_of_ble_eq_true rfl) (Nat.le_of_ble_eq_true rfl) (c_isShelf _) rfl (fun v2 w2 h1z => ?_)
  obtain ⟨rfl, rfl⟩ := h1z
  refine zr_if_eq 16 7 rfl rfl (by decide) (fun c4z => ?_) (fun c4z => ?_)
  · replace c4z := zb_0.mp c4z
    refine zr_iconst 17 (x := (-1)) rfl rfl (by decide) ?_
    refine zr_iret rfl rfl ?_
    refine ⟨ξ, ρ, rfl, ?_⟩
    rw [show zshelfF K sh (ξ 39) sl x a v = _ from if_pos (fun z => c4z z.1)]
    exact ⟨rfl, rfl, hS, rfl, fun _ _ => rfl⟩
  · replace c4z := zb_n0.mp c4z
    refine zr_aload_n 8 rfl rfl rfl trivial ?_
    refine zr_iload_n 9 rfl rfl rfl ?_
    refine zr_iload_n 10 rfl rfl rfl ?_
    refine zr_callv 13 (As := [_, _]) (u2 := (0, 0)) rfl rfl rfl rfl rfl rfl rfl (Nat.le_of_ble_eq_true rfl) (Nat.le_of_ble_eq_true rfl) (Nat.le_of_ble_eq_true rfl) rfl (c_isThingFor h _ _) rfl (fun v2 w2 h10z => ?_)
    obtain ⟨rfl, rfl⟩ := h10z
    refine zr_if_ne 18 16 rfl rfl (by decide) (fun c13z => ?_) (fun c13z => ?_)
    · replace c13z := zb_n0.mp c13z
      obtain ⟨k, hi, rfl⟩ := zperI (M := 4) rfl (by decide) c4z
      have hq : zshelfF K sh (ξ 39) sl (nI k) a v = (upd (ξ 39) k (if a = 0 then v else -1), va_up sl k (if a = 1 then zshrow sh v.toNatClampNeg else none), 1) := by
        unfold zshelfF
        rw [if_neg (fun z => z ⟨c4z, c13z⟩), nI_clamp (by omega)]
      rw [hq]
      refine zr_aload_n 19 rfl rfl rfl trivial ?_
      refine zr_getf 22 rfl rfl rfl rfl rfl ?_
      refine zr_iload_n 23 rfl rfl rfl ?_
      refine zr_iload_n 24 rfl rfl rfl ?_
      refine zr_if_ne 31 27 rfl rfl (by decide) (fun c24z => ?_) (fun c24z => ?_)
      · refine zr_iconst 32 (x := (-1)) rfl rfl (by decide) ?_
        refine zr_iast 33 rfl rfl rfl (nI_clamp (by omega)) (vp_in_nI (by omega) (by omega)) (zW_set rfl) ?_
        refine zr_aload_n 34 rfl rfl rfl trivial ?_
        refine zr_getf 37 rfl rfl rfl rfl rfl ?_
        refine zr_iload_n 38 rfl rfl rfl ?_
        refine zr_iload_n 39 rfl rfl rfl ?_
        refine zr_iconst 40 (x := 1) rfl rfl (by decide) ?_
        refine zr_icmp_ne 52 43 rfl rfl (by decide) (fun c40z => ?_) (fun c40z => ?_)
        · refine zr_aconst_null 53 rfl rfl ?_
          refine zr_aast 54 (b := none) (i := k) rfl rfl rfl rfl (nI_clamp (by omega)) (vp_in_nI (by omega) (by omega)) (Or.inr rfl) (fun y e => by cases e) (zW_ρl rfl) ?_
          refine zr_iconst 55 (x := 1) rfl rfl (by decide) ?_
          refine zr_iret rfl rfl ?_
          refine ⟨_, _, rfl, rfl, ?_, hS.shelf k (Or.inl ⟨rfl, if_neg c40z⟩), rfl, fun b hb => zun hb⟩
          rw [zup, if_neg c24z]
        · obtain ⟨j, hj, rfl⟩ := zperI (M := 4) rfl (by decide) (by
            rcases c13z with ⟨e, _⟩ | ⟨_, q⟩ | e
            · rw [c40z] at e; exact absurd e (by decide)
            · exact q
            · rw [c40z] at e; exact absurd e (by decide))
          refine zr_aload_n 44 rfl rfl rfl trivial ?_
          refine zr_getf 47 rfl rfl rfl rfl rfl ?_
          refine zr_iload_n 48 rfl rfl rfl ?_
          refine zr_aald 49 rfl rfl rfl (by decide) (nI_clamp (by omega)) (vp_in_nI (by omega) (by omega)) rfl ?_
          refine zr_goto 53 rfl (by decide) ?_
          refine zr_aast 54 (b := ρ.2.2.2.1 j) (i := k) rfl rfl rfl rfl (nI_clamp (by omega)) (vp_in_nI (by omega) (by omega)) (Or.inr rfl) (fun y e => by
            rcases zxsh hS hj with ⟨e1, e2⟩ | ⟨b, so, sz, it, e1, e2, hA⟩
            · rw [e1] at e; cases e
            · rw [e1] at e
              cases e
              exact ⟨_, (zc_hi hA.1).trans hA.2.2.2.2.2.1⟩) (zW_ρl rfl) ?_
          refine zr_iconst 55 (x := 1) rfl rfl (by decide) ?_
          refine zr_iret rfl rfl ?_
          refine ⟨_, _, rfl, rfl, ?_, hS.shelf k (by
            rw [if_pos c40z, nI_clamp (by omega)]
            unfold zshrow
            rcases zxsh hS hj with ⟨e1, e2⟩ | ⟨b, so, sz, it, e1, e2, hA⟩
            · exact Or.inl ⟨e1, by rw [e2]⟩
            · exact Or.inr ⟨b, so, sz, it, e1, by rw [e2], hA⟩), rfl, fun b hb => zun hb⟩
          rw [zup, if_neg c24z]
      · refine zr_iload_n 28 rfl rfl rfl ?_
        refine zr_goto 32 rfl (by decide) ?_
        refine zr_iast 33 rfl rfl rfl (nI_clamp (by omega)) (vp_in_nI (by omega) (by omega)) (zW_set rfl) ?_
        refine zr_aload_n 34 rfl rfl rfl trivial ?_
        refine zr_getf 37 rfl rfl rfl rfl rfl ?_
        refine zr_iload_n 38 rfl rfl rfl ?_
        refine zr_iload_n 39 rfl rfl rfl ?_
        refine zr_iconst 40 (x := 1) rfl rfl (by decide) ?_
        refine zr_icmp_ne 52 43 rfl rfl (by decide) (fun c40z => ?_) (fun c40z => ?_)
        · refine zr_aconst_null 53 rfl rfl ?_
          refine zr_aast 54 (b := none) (i := k) rfl rfl rfl rfl (nI_clamp (by omega)) (vp_in_nI (by omega) (by omega)) (Or.inr rfl) (fun y e => by cases e) (zW_ρl rfl) ?_
          refine zr_iconst 55 (x := 1) rfl rfl (by decide) ?_
          refine zr_iret rfl rfl ?_
          refine ⟨_, _, rfl, rfl, ?_, hS.shelf k (Or.inl ⟨rfl, if_neg c40z⟩), rfl, fun b hb => zun hb⟩
          rw [zup, if_pos c24z]
        · obtain ⟨j, hj, rfl⟩ := zperI (M := 4) rfl (by decide) (by
            rcases c13z with ⟨e, _⟩ | ⟨_, q⟩ | e
            · rw [c40z] at e; exact absurd e (by decide)
            · exact q
            · rw [c40z] at e; exact absurd e (by decide))
          refine zr_aload_n 44 rfl rfl rfl trivial ?_
          refine zr_getf 47 rfl rfl rfl rfl rfl ?_
          refine zr_iload_n 48 rfl rfl rfl ?_
          refine zr_aald 49 rfl rfl rfl (by decide) (nI_clamp (by omega)) (vp_in_nI (by omega) (by omega)) rfl ?_
          refine zr_goto 53 rfl (by decide) ?_
          refine zr_aast 54 (b := ρ.2.2.2.1 j) (i := k) rfl rfl rfl rfl (nI_clamp (by omega)) (vp_in_nI (by omega) (by omega)) (Or.inr rfl) (fun y e => by
            rcases zxsh hS hj with ⟨e1, e2⟩ | ⟨b, so, sz, it, e1, e2, hA⟩
            · rw [e1] at e; cases e
            · rw [e1] at e
              cases e
              exact ⟨_, (zc_hi hA.1).trans hA.2.2.2.2.2.1⟩) (zW_ρl rfl) ?_
          refine zr_iconst 55 (x := 1) rfl rfl (by decide) ?_
          refine zr_iret rfl rfl ?_
          refine ⟨_, _, rfl, rfl, ?_, hS.shelf k (by
            rw [if_pos c40z, nI_clamp (by omega)]
            unfold zshrow
            rcases zxsh hS hj with ⟨e1, e2⟩ | ⟨b, so, sz, it, e1, e2, hA⟩
            · exact Or.inl ⟨e1, by rw [e2]⟩
            · exact Or.inr ⟨b, so, sz, it, e1, by rw [e2], hA⟩), rfl, fun b hb => zun hb⟩
          rw [zup, if_pos c24z]
    · replace c13z := zb_0.mp c13z
      refine zr_iconst 17 (x := (-1)) rfl rfl (by decide) ?_
      refine zr_iret rfl rfl ?_
      refine ⟨ξ, ρ, rfl, ?_⟩
      rw [show zshelfF K sh (ξ 39) sl x a v = _ from if_pos (fun z => c13z z.2)]
      exact ⟨rfl, rfl, hS, rfl, fun _ _ => rfl⟩
