def zxi0 (S : Nat × (Nat → Int32)) : Nat → Nat → Int32
  | 1 => fun k => if k = 7 then 1 else 0
  | 2 => va_cpy (zct S 2).2 (fun _ => 0) 0 0 5
  | 12 => fun k => if k = 7 then 1 else 0
  | 13 => va_cpy (zct S 2).2 (fun _ => 0) 0 0 5
  | 23 => fun k => if k = 7 then 1 else 0
  | 24 => va_cpy (zct S 2).2 (fun _ => 0) 0 0 5
  | 39 => upd (upd (upd (upd (fun _ => 0) 0 (-1)) 1 (-1)) 2 (-1)) 3 (-1)
  | 42 => fun k => if k = 11 then 1 else 0
  | 43 => upd (upd (upd (upd (upd (fun _ => 0) 0 29) 1 8) 2 5) 3 0) 4 5
  | 61 => upd (upd (upd (upd (fun _ => 0) 0 (-1)) 1 (-1)) 2 (-1)) 3 (-1)
  | 64 => upd (upd (upd (upd (fun _ => 0) 0 (-1)) 1 (-1)) 2 (-1)) 3 (-1)
  | _ => fun _ => 0
def zrho0 : zRho := (.null, 0, fun _ => 0, fun _ => none, fun _ => none, fun _ => .inr (99, []))
theorem zps_up1 : (va_up (va_up (va_up (va_up (va_up (va_up (fun _ => none) 0 (some 6)) 1 (some 7)) 2 (some 8)) 3 (some 9)) 4 (some 10)) 5 (some 11)) = zpsf 1 := by
  funext i
  match i with
  | 0 => rfl
  | 1 => rfl
  | 2 => rfl
  | 3 => rfl
  | 4 => rfl
  | 5 => rfl
  | i + 6 =>
    unfold zpsf
    rw [if_neg (by omega)]
    unfold va_up
    repeat rw [if_neg (by omega)]
theorem zps_up12 : (va_up (va_up (va_up (va_up (va_up (va_up (fun _ => none) 0 (some 17)) 1 (some 18)) 2 (some 19)) 3 (some 20)) 4 (some 21)) 5 (some 22)) = zpsf 12 := by
  funext i
  match i with
  | 0 => rfl
  | 1 => rfl
  | 2 => rfl
  | 3 => rfl
  | 4 => rfl
  | 5 => rfl
  | i + 6 =>
    unfold zpsf
    rw [if_neg (by omega)]
    unfold va_up
    repeat rw [if_neg (by omega)]
theorem zps_up23 : (va_up (va_up (va_up (va_up (va_up (va_up (fun _ => none) 0 (some 28)) 1 (some 29)) 2 (some 30)) 3 (some 31)) 4 (some 32)) 5 (some 33)) = zpsf 23 := by
  funext i
  match i with
  | 0 => rfl
  | 1 => rfl
  | 2 => rfl
  | 3 => rfl
  | 4 => rfl
  | 5 => rfl
  | i + 6 =>
    unfold zpsf
    rw [if_neg (by omega)]
    unfold va_up
    repeat rw [if_neg (by omega)]
set_option maxRecDepth 20000 in
set_option maxHeartbeats 4000000 in
theorem zflat0 (S : Nat × (Nat → Int32)) : zWl [zob 5 [.ref 1, .ref 12, .ref 23, .int 0, .ref 34, .ref 36, .int 0, .ref 37, .ref 38, .ref 39, .ref 40], zob 0 [.ref 2, .ref 3, .ref 4, .ref 5, .int 0, .int 0, .int 0, .int 1], zai 5 (va_cpy (zct S 2).2 (fun _ => 0) 0 0 5), zai 3 (fun _ => 0), zai 3 (fun _ => 0), zaq 3 6 (va_up (va_up (va_up (va_up (va_up (va_up (fun _ => none) 0 (some 6)) 1 (some 7)) 2 (some 8)) 3 (some 9)) 4 (some 10)) 5 (some 11)), zob 1 [.int 0, .int 0, .int 0, .int 0, .int 0, .int 0, .int 0], zob 1 [.int 0, .int 0, .int 0, .int 0, .int 0, .int 0, .int 0], zob 1 [.int 0, .int 0, .int 0, .int 0, .int 0, .int 0, .int 0], zob 1 [.int 0, .int 0, .int 0, .int 0, .int 0, .int 0, .int 0], zob 1 [.int 0, .int 0, .int 0, .int 0, .int 0, .int 0, .int 0], zob 1 [.int 0, .int 0, .int 0, .int 0, .int 0, .int 0, .int 0], zob 0 [.ref 13, .ref 14, .ref 15, .ref 16, .int 0, .int 0, .int 0, .int 1], zai 5 (va_cpy (zct S 2).2 (fun _ => 0) 0 0 5), zai 3 (fun _ => 0), zai 3 (fun _ => 0), zaq 3 6 (va_up (va_up (va_up (va_up (va_up (va_up (fun _ => none) 0 (some 17)) 1 (some 18)) 2 (some 19)) 3 (some 20)) 4 (some 21)) 5 (some 22)), zob 1 [.int 0, .int 0, .int 0, .int 0, .int 0, .int 0, .int 0], zob 1 [.int 0, .int 0, .int 0, .int 0, .int 0, .int 0, .int 0], zob 1 [.int 0, .int 0, .int 0, .int 0, .int 0, .int 0, .int 0], zob 1 [.int 0, .int 0, .int 0, .int 0, .int 0, .int 0, .int 0], zob 1 [.int 0, .int 0, .int 0, .int 0, .int 0, .int 0, .int 0], zob 1 [.int 0, .int 0, .int 0, .int 0, .int 0, .int 0, .int 0], zob 0 [.ref 24, .ref 25, .ref 26, .ref 27, .int 0, .int 0, .int 0, .int 1], zai 5 (va_cpy (zct S 2).2 (fun _ => 0) 0 0 5), zai 3 (fun _ => 0), zai 3 (fun _ => 0), zaq 3 6 (va_up (va_up (va_up (va_up (va_up (va_up (fun _ => none) 0 (some 28)) 1 (some 29)) 2 (some 30)) 3 (some 31)) 4 (some 32)) 5 (some 33)), zob 1 [.int 0, .int 0, .int 0, .int 0, .int 0, .int 0, .int 0], zob 1 [.int 0, .int 0, .int 0, .int 0, .int 0, .int 0, .int 0], zob 1 [.int 0, .int 0, .int 0, .int 0, .int 0, .int 0, .int 0], zob 1 [.int 0, .int 0, .int 0, .int 0, .int 0, .int 0, .int 0], zob 1 [.int 0, .int 0, .int 0, .int 0, .int 0, .int 0, .int 0], zob 1 [.int 0, .int 0, .int 0, .int 0, .int 0, .int 0, .int 0], zob 3 [.ref 35, .int 0, .null, .int 0, .int 0, .int 0, .int 0, .int 0], zab 200 (fun _ => 0), zai 60 (fun _ => 0), zaq 4 4 (fun _ => none), zaq 4 4 (fun _ => none), zai 4 (upd (upd (upd (upd (fun _ => 0) 0 (-1)) 1 (-1)) 2 (-1)) 3 (-1)), zob 4 [.ref 41, .int 0, .int 0, .int 0, .int 0, .int 0], zai 30 (fun _ => 0), zob 6 [.ref 43, .int 0, .ref 44, .ref 45, .int 0, .ref 46, .ref 47, .ref 48, .ref 49, .ref 50, .int 0, .int 1, .ref 51, .int 0, .int 0, .int 0, .int 0, .long 0, .int 0, .int 0, .int 0, .int 0, .ref 52, .ref 53, .ref 54, .ref 55, .ref 56, .ref 57, .ref 58, .int 0, .int 0, .ref 59, .ref 60, .int 0, .int 0, .ref 61, .ref 62, .ref 63, .ref 64, .ref 65, .ref 66, .int 0, .int 0, .int 0, .ref 67, .int 0, .int 0, .int 0, .ref 68, .int 0, .ref 69], zai 5 (upd (upd (upd (upd (upd (fun _ => 0) 0 29) 1 8) 2 5) 3 0) 4 5), zai 4 (fun _ => 0), zai 4 (fun _ => 0), zai 6 (fun _ => 0), zai 6 (fun _ => 0), zai 6 (fun _ => 0), zai 6 (fun _ => 0), zai 38 (fun _ => 0), zai 200 (fun _ => 0), zai 5 (fun _ => 0), zai 6 (fun _ => 0), zai 6 (fun _ => 0), zai 6 (fun _ => 0), zai 6 (fun _ => 0), zai 3 (fun _ => 0), zai 3 (fun _ => 0), zai 60 (fun _ => 0), zai 60 (fun _ => 0), zai 4 (upd (upd (upd (upd (fun _ => 0) 0 (-1)) 1 (-1)) 2 (-1)) 3 (-1)), zai 4 (fun _ => 0), zal 160 (fun _ => 0), zai 4 (upd (upd (upd (upd (fun _ => 0) 0 (-1)) 1 (-1)) 2 (-1)) 3 (-1)), zai 4 (fun _ => 0), zai 4 (fun _ => 0), zai 30 (fun _ => 0), zai 70 (fun _ => 0), zai 3 (fun _ => 0)] = zWof 70 (zxi0 S) zrho0 := Prod.ext rfl (funext fun a => match a with
  | 0 => rfl
  | 1 => rfl
  | 2 => rfl
  | 3 => rfl
  | 4 => rfl
  | 5 => congrArg (fun f => zaq 3 6 f) zps_up1
  | 6 => rfl
  | 7 => rfl
  | 8 => rfl
  | 9 => rfl
  | 10 => rfl
  | 11 => rfl
  | 12 => rfl
  | 13 => rfl
  | 14 => rfl
  | 15 => rfl
  | 16 => congrArg (fun f => zaq 3 6 f) zps_up12
  | 17 => rfl
  | 18 => rfl
  | 19 => rfl
  | 20 => rfl
  | 21 => rfl
  | 22 => rfl
  | 23 => rfl
  | 24 => rfl
  | 25 => rfl
  | 26 => rfl
  | 27 => congrArg (fun f => zaq 3 6 f) zps_up23
  | 28 => rfl
  | 29 => rfl
  | 30 => rfl
  | 31 => rfl
  | 32 => rfl
  | 33 => rfl
  | 34 => rfl
  | 35 => rfl
  | 36 => rfl
  | 37 => rfl
  | 38 => rfl
  | 39 => rfl
  | 40 => rfl
  | 41 => rfl
  | 42 => rfl
  | 43 => rfl
  | 44 => rfl
  | 45 => rfl
  | 46 => rfl
  | 47 => rfl
  | 48 => rfl
  | 49 => rfl
  | 50 => rfl
  | 51 => rfl
  | 52 => rfl
  | 53 => rfl
  | 54 => rfl
  | 55 => rfl
  | 56 => rfl
  | 57 => rfl
  | 58 => rfl
  | 59 => rfl
  | 60 => rfl
  | 61 => rfl
  | 62 => rfl
  | 63 => rfl
  | 64 => rfl
  | 65 => rfl
  | 66 => rfl
  | 67 => rfl
  | 68 => rfl
  | 69 => rfl
  | _ + 70 => rfl)
/-! what holds between two calls: both sides bear the same class, tape, rows, sheets, shelves and trace -/
def zInv (n : Nat) (ξ : Nat → Nat → Int32) (ρ : zRho) : Prop := ∃ (K Kk : zCs) (sh : zSh) (sl : zSl) (L R N : Nat), zXR ξ 1 K ∧ zMR ξ 0 K ∧ zOK K ∧ ξ 42 47 = ξ 0 3 ∧ (¬ ξ 0 3 = 0 → zXR ξ 12 Kk ∧ zMK ξ Kk ∧ zOK Kk) ∧ ξ 34 1 = nI L ∧ ξ 42 13 = nI L ∧ L ≤ 200 ∧ zBy (ξ 35) (ξ 51) L ∧
  ξ 0 6 = nI R ∧ ξ 42 33 = nI R ∧ R ≤ 20 ∧ (∀ k, k < 3 * R → ξ 36 k = ξ 59 k) ∧ zXS n ρ sh sl ∧ zMS ξ ρ.2.2.1 sh ∧ zML ξ (ξ 39) sl ∧ ξ 40 1 = nI N ∧ ξ 42 45 = nI N ∧ N ≤ 30 ∧ ξ 67 = ξ 41
theorem zMR.of {ξ ξ1 : Nat → Nat → Int32} {K : zCs} (h : zMR ξ 0 K) (hM : K.M ≤ 6) (f : ∀ a, 42 ≤ a → ξ1 a = ξ a) : zMR ξ1 0 K :=
  h.fr hM (fun b h1 _ => f b (by omega)) (fun k _ => by rw [f 42 (by omega)]) (fun k _ _ => by rw [f 50 (by omega)])
/-- cells 1 to 11 and 23 to 33 may have changed -/
abbrev zfC (ξ ξ1 : Nat → Nat → Int32) : Prop := ∀ a, (a < 1 ∨ (12 ≤ a ∧ a < 23) ∨ 34 ≤ a) → ξ1 a = ξ a
theorem zfC1 {ξ ξ1 : Nat → Nat → Int32} (f : zfrA 1 ξ ξ1) : zfC ξ ξ1 := fun a ha => f a (by omega)
theorem zfC23 {ξ ξ1 : Nat → Nat → Int32} (f : zfrA 23 ξ ξ1) : zfC ξ ξ1 := fun a ha => f a (by omega)
theorem zMK.of {ξ ξ2 : Nat → Nat → Int32} {K : zCs} (h : zMK ξ K) (e : ξ2 68 = ξ 68) : zMK ξ2 K := by
  unfold zMK at *
  rw [e]
  exact h
theorem zMS.of {ξ ξ2 : Nat → Nat → Int32} {g : Nat → Int64} {sh : zSh} (h : zMS ξ g sh) (e1 : ξ2 61 = ξ 61) (e2 : ξ2 62 = ξ 62) : zMS ξ2 g sh := by
  intro i hi
  have q := h i hi
  unfold zMS1 at *
  rw [e1, e2]
  exact q
theorem zML.of {ξ ξ2 : Nat → Nat → Int32} {hp : Nat → Int32} {sl : zSl} (h : zML ξ hp sl) (e1 : ξ2 64 = ξ 64) (e2 : ξ2 65 = ξ 65) (e3 : ξ2 66 = ξ 66) : zML ξ2 hp sl := by
  intro i hi
  have q := h i hi
  unfold zML1 at *
  rw [e1, e2, e3]
  exact q
/-- a call that changes the class alone -/
theorem zInv.cm {n : Nat} {ξ ξ1 ξ2 : Nat → Nat → Int32} {ρ : zRho} {Kk K2 : zCs} {sh : zSh} {sl : zSl} {L R N : Nat} (hkp : ξ 42 47 = ξ 0 3) (hkk : ¬ ξ 0 3 = 0 → zXR ξ 12 Kk ∧ zMK ξ Kk ∧ zOK Kk) (t1 : ξ 34 1 = nI L) (t2 : ξ 42 13 = nI L) (t3 : L ≤ 200) (t4 : zBy (ξ 35) (ξ 51) L)
    (r1 : ξ 0 6 = nI R) (r2 : ξ 42 33 = nI R) (r3 : R ≤ 20) (r4 : ∀ k, k < 3 * R → ξ 36 k = ξ 59 k) (s1 : zXS n ρ sh sl) (s2 : zMS ξ ρ.2.2.1 sh) (s3 : zML ξ (ξ 39) sl) (c1 : ξ 40 1 = nI N) (c2 : ξ 42 45 = nI N) (c3 : N ≤ 30) (c4 : ξ 67 = ξ 41)
    (f : zfC ξ ξ1) (g : zfm ξ1 ξ2) (x2 : zXR ξ1 1 K2) (m2 : zMR ξ2 0 K2) (ok : zOK K2) : zInv n ξ2 ρ := by
  have lo : ∀ a, a < 42 → ξ2 a = ξ1 a := fun a ha => g.1 a (Or.inl ha) (by omega)
  have hi : ∀ a, 51 ≤ a → a ≠ 60 → ξ2 a = ξ a := fun a ha hb => (g.1 a (Or.inr ha) hb).trans (f a (by omega))
  have l0 : ξ2 0 = ξ 0 := (lo 0 (by decide)).trans (f 0 (by decide))
  have ll : ∀ a, 34 ≤ a → a < 42 → ξ2 a = ξ a := fun a h1 h2 => (lo a h2).trans (f a (by omega))
  have k42 : ∀ k, (k = 13 ∨ k = 33 ∨ k = 45 ∨ k = 47) → ξ2 42 k = ξ 42 k := fun k hk => (g.2 k hk).trans (by rw [f 42 (by decide)])
  refine ⟨K2, Kk, sh, sl, L, R, N, x2.fr ok.m6 (fun a h1 h2 => lo a (by omega)), m2, ok, ?_, ?_, ?_, ?_, t3, ?_, ?_, ?_, r3, ?_, s1, ?_, ?_, ?_, ?_, c3, ?_⟩
  · rw [k42 47 (by decide), l0]
    exact hkp
  · rw [l0]
    intro q
    obtain ⟨a1, a2, a3⟩ := hkk q
    exact ⟨a1.fr a3.m6 (fun a h1 h2 => (lo a (by omega)).trans (f a (by omega))), a2.of (hi 68 (by decide) (by decide)), a3⟩
  · rw [ll 34 (by decide) (by decide)]
    exact t1
  · rw [k42 13 (by decide)]
    exact t2
  · rw [ll 35 (by decide) (by decide), hi 51 (by decide) (by decide)]
    exact t4
  · rw [l0]
    exact r1
  · rw [k42 33 (by decide)]
    exact r2
  · rw [ll 36 (by decide) (by decide), hi 59 (by decide) (by decide)]
    exact r4
  · exact s2.of (hi 61 (by decide) (by decide)) (hi 62 (by decide) (by decide))
  · rw [ll 39 (by decide) (by decide)]
    exact s3.of (hi 64 (by decide) (by decide)) (hi 65 (by decide) (by decide)) (hi 66 (by decide) (by decide))
  · rw [ll 40 (by decide) (by decide)]
    exact c1
  · rw [k42 45 (by decide)]
    exact c2
  · rw [ll 41 (by decide) (by decide), hi 67 (by decide) (by decide)]
    exact c4
def zK1 : zCs := (0, 0, 0, 1, zlaw1, fun _ => 0, fun _ => 0, fun _ _ => 0)
theorem zK1_ok : zOK zK1 := ⟨Nat.zero_le _, Nat.zero_le _, Nat.zero_le _, by decide, by decide, by decide, by decide, by decide, fun i hi => absurd hi (Nat.not_lt_zero _), fun i hi => absurd hi (Nat.not_lt_zero _), fun i hi => absurd hi (Nat.not_lt_zero _), fun i hi => absurd hi (Nat.not_lt_zero _)⟩
theorem zinv0 (S : Nat × (Nat → Int32)) : zInv 70 (zxi0 S) zrho0 := by
  refine ⟨zK1, zK1, fun _ => none, fun _ => none, 0, 0, 0, ⟨rfl, rfl, rfl, rfl, fun i hi => ?_, fun i hi => absurd hi (Nat.not_lt_zero _), fun i hi => absurd hi (Nat.not_lt_zero _), fun i hi => absurd hi (Nat.not_lt_zero _)⟩, ⟨Or.inl rfl, rfl, rfl, rfl, rfl, rfl, fun i hi => ?_, fun i hi => absurd hi (Nat.not_lt_zero _), fun i hi => absurd hi (Nat.not_lt_zero _), fun i hi => absurd hi (Nat.not_lt_zero _), fun i hi => absurd hi (Nat.not_lt_zero _)⟩, zK1_ok, rfl, fun q => absurd rfl q, rfl, rfl, by decide, fun i hi => absurd hi (Nat.not_lt_zero _), rfl, rfl, by decide, fun k hk => absurd hk (Nat.not_lt_zero _), ⟨by decide, by decide, fun i _ => Or.inl ⟨rfl, rfl⟩, fun i _ => Or.inl ⟨rfl, rfl⟩, fun i j a _ _ q _ => by cases q⟩, fun i hi => Or.inl ⟨rfl, ?_⟩, fun i hi => Or.inl ⟨rfl, ?_, ?_⟩, rfl, rfl, by decide, rfl⟩
  · rcases (by omega : i = 0 ∨ i = 1 ∨ i = 2 ∨ i = 3 ∨ i = 4) with rfl | rfl | rfl | rfl | rfl <;> rfl
  · rcases (by omega : i = 0 ∨ i = 1 ∨ i = 2 ∨ i = 3 ∨ i = 4) with rfl | rfl | rfl | rfl | rfl <;> rfl
  · rcases (by omega : i = 0 ∨ i = 1 ∨ i = 2 ∨ i = 3) with rfl | rfl | rfl | rfl <;> rfl
  · rcases (by omega : i = 0 ∨ i = 1 ∨ i = 2 ∨ i = 3) with rfl | rfl | rfl | rfl <;> rfl
  · rcases (by omega : i = 0 ∨ i = 1 ∨ i = 2 ∨ i = 3) with rfl | rfl | rfl | rfl <;> rfl
