/-! the flat memory: cell a < 70 has a fixed shape, its ints are ξ a; what else there is: ρ (told, word, the longs of the reference, the two rows of Sheets, the cells from 70 on) -/
abbrev zRho : Type := Value × Int64 × (Nat → Int64) × (Nat → Option Nat) × (Nat → Option Nat) × (Nat → va_E)
def zpsf (b : Nat) : Nat → Option Nat := fun i => if i < 6 then some (b + 5 + i) else none
def zsh : List (zRho → (Nat → Int32) → va_E) := [fun ρ f => zob 5 [.ref 1, .ref 12, .ref 23, .int (f 3), .ref 34, .ref 36, .int (f 6), .ref 37, .ref 38, .ref 39, .ref 40],
  fun ρ f => zob 0 [.ref 2, .ref 3, .ref 4, .ref 5, .int (f 4), .int (f 5), .int (f 6), .int (f 7)],
  fun ρ f => zai 5 f,
  fun ρ f => zai 3 f,
  fun ρ f => zai 3 f,
  fun ρ f => zaq 3 6 (zpsf 1),
  fun ρ f => zob 1 [.int (f 0), .int (f 1), .int (f 2), .int (f 3), .int (f 4), .int (f 5), .int (f 6)],
  fun ρ f => zob 1 [.int (f 0), .int (f 1), .int (f 2), .int (f 3), .int (f 4), .int (f 5), .int (f 6)],
  fun ρ f => zob 1 [.int (f 0), .int (f 1), .int (f 2), .int (f 3), .int (f 4), .int (f 5), .int (f 6)],
  fun ρ f => zob 1 [.int (f 0), .int (f 1), .int (f 2), .int (f 3), .int (f 4), .int (f 5), .int (f 6)],
  fun ρ f => zob 1 [.int (f 0), .int (f 1), .int (f 2), .int (f 3), .int (f 4), .int (f 5), .int (f 6)],
  fun ρ f => zob 1 [.int (f 0), .int (f 1), .int (f 2), .int (f 3), .int (f 4), .int (f 5), .int (f 6)],
  fun ρ f => zob 0 [.ref 13, .ref 14, .ref 15, .ref 16, .int (f 4), .int (f 5), .int (f 6), .int (f 7)],
  fun ρ f => zai 5 f,
  fun ρ f => zai 3 f,
  fun ρ f => zai 3 f,
  fun ρ f => zaq 3 6 (zpsf 12),
  fun ρ f => zob 1 [.int (f 0), .int (f 1), .int (f 2), .int (f 3), .int (f 4), .int (f 5), .int (f 6)],
  fun ρ f => zob 1 [.int (f 0), .int (f 1), .int (f 2), .int (f 3), .int (f 4), .int (f 5), .int (f 6)],
  fun ρ f => zob 1 [.int (f 0), .int (f 1), .int (f 2), .int (f 3), .int (f 4), .int (f 5), .int (f 6)],
  fun ρ f => zob 1 [.int (f 0), .int (f 1), .int (f 2), .int (f 3), .int (f 4), .int (f 5), .int (f 6)],
  fun ρ f => zob 1 [.int (f 0), .int (f 1), .int (f 2), .int (f 3), .int (f 4), .int (f 5), .int (f 6)],
  fun ρ f => zob 1 [.int (f 0), .int (f 1), .int (f 2), .int (f 3), .int (f 4), .int (f 5), .int (f 6)],
  fun ρ f => zob 0 [.ref 24, .ref 25, .ref 26, .ref 27, .int (f 4), .int (f 5), .int (f 6), .int (f 7)],
  fun ρ f => zai 5 f,
  fun ρ f => zai 3 f,
  fun ρ f => zai 3 f,
  fun ρ f => zaq 3 6 (zpsf 23),
  fun ρ f => zob 1 [.int (f 0), .int (f 1), .int (f 2), .int (f 3), .int (f 4), .int (f 5), .int (f 6)],
  fun ρ f => zob 1 [.int (f 0), .int (f 1), .int (f 2), .int (f 3), .int (f 4), .int (f 5), .int (f 6)],
  fun ρ f => zob 1 [.int (f 0), .int (f 1), .int (f 2), .int (f 3), .int (f 4), .int (f 5), .int (f 6)],
  fun ρ f => zob 1 [.int (f 0), .int (f 1), .int (f 2), .int (f 3), .int (f 4), .int (f 5), .int (f 6)],
  fun ρ f => zob 1 [.int (f 0), .int (f 1), .int (f 2), .int (f 3), .int (f 4), .int (f 5), .int (f 6)],
  fun ρ f => zob 1 [.int (f 0), .int (f 1), .int (f 2), .int (f 3), .int (f 4), .int (f 5), .int (f 6)],
  fun ρ f => zob 3 [.ref 35, .int (f 1), ρ.1, .int (f 3), .int (f 4), .int (f 5), .int (f 6), .int (f 7)],
  fun ρ f => zab 200 f,
  fun ρ f => zai 60 f,
  fun ρ f => zaq 4 4 ρ.2.2.2.1,
  fun ρ f => zaq 4 4 ρ.2.2.2.2.1,
  fun ρ f => zai 4 f,
  fun ρ f => zob 4 [.ref 41, .int (f 1), .int (f 2), .int (f 3), .int (f 4), .int (f 5)],
  fun ρ f => zai 30 f,
  fun ρ f => zob 6 [.ref 43, .int (f 1), .ref 44, .ref 45, .int (f 4), .ref 46, .ref 47, .ref 48, .ref 49, .ref 50, .int (f 10), .int (f 11), .ref 51, .int (f 13), .int (f 14), .int (f 15), .int (f 16), .long ρ.2.1, .int (f 18), .int (f 19), .int (f 20), .int (f 21), .ref 52, .ref 53, .ref 54, .ref 55, .ref 56, .ref 57, .ref 58, .int (f 29), .int (f 30), .ref 59, .ref 60, .int (f 33), .int (f 34), .ref 61, .ref 62, .ref 63, .ref 64, .ref 65, .ref 66, .int (f 41), .int (f 42), .int (f 43), .ref 67, .int (f 45), .int (f 46), .int (f 47), .ref 68, .int (f 49), .ref 69],
  fun ρ f => zai 5 f,
  fun ρ f => zai 4 f,
  fun ρ f => zai 4 f,
  fun ρ f => zai 6 f,
  fun ρ f => zai 6 f,
  fun ρ f => zai 6 f,
  fun ρ f => zai 6 f,
  fun ρ f => zai 38 f,
  fun ρ f => zai 200 f,
  fun ρ f => zai 5 f,
  fun ρ f => zai 6 f,
  fun ρ f => zai 6 f,
  fun ρ f => zai 6 f,
  fun ρ f => zai 6 f,
  fun ρ f => zai 3 f,
  fun ρ f => zai 3 f,
  fun ρ f => zai 60 f,
  fun ρ f => zai 60 f,
  fun ρ f => zai 4 f,
  fun ρ f => zai 4 f,
  fun ρ f => zal 160 ρ.2.2.1,
  fun ρ f => zai 4 f,
  fun ρ f => zai 4 f,
  fun ρ f => zai 4 f,
  fun ρ f => zai 30 f,
  fun ρ f => zai 70 f,
  fun ρ f => zai 3 f]
def zcel (ρ : zRho) (a : Nat) (f : Nat → Int32) : va_E := match zat zsh a with
  | some k => k ρ f
  | none => ρ.2.2.2.2.2 a
def zWof (n : Nat) (ξ : Nat → Nat → Int32) (ρ : zRho) : zW := (n, fun a => zcel ρ a (ξ a))
def zu (ξ : Nat → Nat → Int32) (a k : Nat) (v : Int32) : Nat → Nat → Int32 := fun a' => if a' = a then upd (ξ a) k v else ξ a'
def zua (ξ : Nat → Nat → Int32) (a : Nat) (f : Nat → Int32) : Nat → Nat → Int32 := fun a' => if a' = a then f else ξ a'
theorem zu_eq (ξ : Nat → Nat → Int32) (a k : Nat) (v : Int32) (a' k' : Nat) : zu ξ a k v a' k' = if a' = a ∧ k' = k then v else ξ a' k' := by
  unfold zu
  by_cases h : a' = a
  · subst h
    rw [if_pos rfl]
    unfold upd
    by_cases h2 : k' = k <;> simp [h2]
  · rw [if_neg h, if_neg (fun q => h q.1)]
theorem zu_same (ξ : Nat → Nat → Int32) (a k : Nat) (v : Int32) : zu ξ a k v a k = v := by rw [zu_eq, if_pos ⟨rfl, rfl⟩]
theorem zu_ne {ξ : Nat → Nat → Int32} {a k : Nat} {v : Int32} {a' k' : Nat} (h : a' ≠ a ∨ k' ≠ k) : zu ξ a k v a' k' = ξ a' k' := by
  rw [zu_eq, if_neg]
  rintro ⟨h1, h2⟩
  rcases h with h | h
  · exact h h1
  · exact h h2
theorem zua_eq (ξ : Nat → Nat → Int32) (a : Nat) (f : Nat → Int32) (a' k' : Nat) : zua ξ a f a' k' = if a' = a then f k' else ξ a' k' := by
  unfold zua
  by_cases h : a' = a <;> simp [h]
theorem zW_set {n : Nat} {ξ : Nat → Nat → Int32} {ρ : zRho} {a k : Nat} {v : Int32} {e : va_E} (h : e = zcel ρ a (upd (ξ a) k v)) : zset (zWof n ξ ρ) a e = zWof n (zu ξ a k v) ρ := by
  subst h
  unfold zset zWof
  congr 1
  funext a'
  by_cases h : a' = a
  · subst h
    simp [va_up, zu]
  · simp [va_up, zu, h]
theorem zW_setA {n : Nat} {ξ : Nat → Nat → Int32} {ρ : zRho} {a : Nat} {f : Nat → Int32} {e : va_E} (h : e = zcel ρ a f) : zset (zWof n ξ ρ) a e = zWof n (zua ξ a f) ρ := by
  subst h
  unfold zset zWof
  congr 1
  funext a'
  by_cases h : a' = a
  · subst h
    simp [va_up, zua]
  · simp [va_up, zua, h]
/-! the three Courses and their People -/
def zisC (b : Nat) : Prop := b = 1 ∨ b = 12 ∨ b = 23
def zisP (p : Nat) : Prop := ∃ b i, zisC b ∧ i < 6 ∧ p = b + 5 + i
theorem zcel_co {b : Nat} (hb : zisC b) (ρ : zRho) (f : Nat → Int32) : zcel ρ b f = zob 0 [.ref (b + 1), .ref (b + 2), .ref (b + 3), .ref (b + 4), .int (f 4), .int (f 5), .int (f 6), .int (f 7)] := by rcases hb with rfl | rfl | rfl <;> rfl
theorem zcel_c1 {b : Nat} (hb : zisC b) (ρ : zRho) (f : Nat → Int32) : zcel ρ (b + 1) f = zai 5 f := by rcases hb with rfl | rfl | rfl <;> rfl
theorem zcel_c2 {b : Nat} (hb : zisC b) (ρ : zRho) (f : Nat → Int32) : zcel ρ (b + 2) f = zai 3 f := by rcases hb with rfl | rfl | rfl <;> rfl
theorem zcel_c3 {b : Nat} (hb : zisC b) (ρ : zRho) (f : Nat → Int32) : zcel ρ (b + 3) f = zai 3 f := by rcases hb with rfl | rfl | rfl <;> rfl
theorem zcel_c4 {b : Nat} (hb : zisC b) (ρ : zRho) (f : Nat → Int32) : zcel ρ (b + 4) f = zaq 3 6 (zpsf b) := by rcases hb with rfl | rfl | rfl <;> rfl
theorem zcel_pe {p : Nat} (hp : zisP p) (ρ : zRho) (f : Nat → Int32) : zcel ρ p f = zob 1 [.int (f 0), .int (f 1), .int (f 2), .int (f 3), .int (f 4), .int (f 5), .int (f 6)] := by
  obtain ⟨b, i, hb, hi, rfl⟩ := hp
  rcases hb with rfl | rfl | rfl <;> (match i, hi with
    | 0, _ => rfl
    | 1, _ => rfl
    | 2, _ => rfl
    | 3, _ => rfl
    | 4, _ => rfl
    | 5, _ => rfl)
section ZCC
variable {n b p : Nat} {ξ : Nat → Nat → Int32} {ρ : zRho}
theorem zc_co (hb : zisC b) : (zWof n ξ ρ).2 b = .inr (0, [.ref (b + 1), .ref (b + 2), .ref (b + 3), .ref (b + 4), .int (ξ b 4), .int (ξ b 5), .int (ξ b 6), .int (ξ b 7)]) := zcel_co hb ρ (ξ b)
theorem zc_c1 (hb : zisC b) : (zWof n ξ ρ).2 (b + 1) = zai 5 (ξ (b + 1)) := zcel_c1 hb ρ _
theorem zc_c2 (hb : zisC b) : (zWof n ξ ρ).2 (b + 2) = zai 3 (ξ (b + 2)) := zcel_c2 hb ρ _
theorem zc_c3 (hb : zisC b) : (zWof n ξ ρ).2 (b + 3) = zai 3 (ξ (b + 3)) := zcel_c3 hb ρ _
theorem zc_c4 (hb : zisC b) : (zWof n ξ ρ).2 (b + 4) = zaq 3 6 (zpsf b) := zcel_c4 hb ρ _
theorem zc_pe (hp : zisP p) : (zWof n ξ ρ).2 p = .inr (1, [.int (ξ p 0), .int (ξ p 1), .int (ξ p 2), .int (ξ p 3), .int (ξ p 4), .int (ξ p 5), .int (ξ p 6)]) := zcel_pe hp ρ (ξ p)
theorem zs_co (hb : zisC b) (k : Nat) (hk : 4 ≤ k ∧ k < 8) (v : Int32) : zset (zWof n ξ ρ) b (.inr (0, ([.ref (b + 1), .ref (b + 2), .ref (b + 3), .ref (b + 4), .int (ξ b 4), .int (ξ b 5), .int (ξ b 6), .int (ξ b 7)] : List Value).set k (.int v))) = zWof n (zu ξ b k v) ρ := by
  refine zW_set ?_
  rw [zcel_co hb]
  match k, hk with
  | 4, _ => rfl
  | 5, _ => rfl
  | 6, _ => rfl
  | 7, _ => rfl
theorem zs_pe (hp : zisP p) (k : Nat) (hk : k < 7) (v : Int32) : zset (zWof n ξ ρ) p (.inr (1, ([.int (ξ p 0), .int (ξ p 1), .int (ξ p 2), .int (ξ p 3), .int (ξ p 4), .int (ξ p 5), .int (ξ p 6)] : List Value).set k (.int v))) = zWof n (zu ξ p k v) ρ := by
  refine zW_set ?_
  rw [zcel_pe hp]
  match k, hk with
  | 0, _ => rfl
  | 1, _ => rfl
  | 2, _ => rfl
  | 3, _ => rfl
  | 4, _ => rfl
  | 5, _ => rfl
  | 6, _ => rfl
theorem zs_c1 (hb : zisC b) {i : Nat} {v : Int32} : zset (zWof n ξ ρ) (b + 1) (zai 5 (upd (ξ (b + 1)) i v)) = zWof n (zu ξ (b + 1) i v) ρ := zW_set (zcel_c1 hb ρ _).symm
theorem zs_c2 (hb : zisC b) {i : Nat} {v : Int32} : zset (zWof n ξ ρ) (b + 2) (zai 3 (upd (ξ (b + 2)) i v)) = zWof n (zu ξ (b + 2) i v) ρ := zW_set (zcel_c2 hb ρ _).symm
theorem zs_c3 (hb : zisC b) {i : Nat} {v : Int32} : zset (zWof n ξ ρ) (b + 3) (zai 3 (upd (ξ (b + 3)) i v)) = zWof n (zu ξ (b + 3) i v) ρ := zW_set (zcel_c3 hb ρ _).symm
end ZCC
