/-! rows of the small machine: np is the next pc; h and e by rfl -/
section ZROWS
variable {S : Nat × (Nat → Int32)} {C : zC} {c : Nat} {g : Bool} {rt : Nat} {K : zK} {Q : zQ} {pc : Nat} {L : zL} {st r : List Value} {u : Nat × Nat} {w : zW} {n : Nat}
theorem zr_aconst_null (np : Nat) (h : zas K pc = some (.aconst_null, n)) (e : pc + n = np) (kk : Zw S C c g rt K Q (np, L, .null :: r, u, w)) : Zw S C c g rt K Q (pc, L, r, u, w) := by
  subst e
  exact zs h rfl kk
theorem zr_iconst (np : Nat) {z : Int} {x : Int32} (h : zas K pc = some (.iconst z, n)) (e : pc + n = np) (hx : Int32.ofInt z = x) (kk : Zw S C c g rt K Q (np, L, .int x :: r, u, w)) : Zw S C c g rt K Q (pc, L, r, u, w) := by
  subst e
  subst hx
  exact zs h rfl kk
theorem zr_bipush (np : Nat) {z : Int} {x : Int32} (h : zas K pc = some (.bipush z, n)) (e : pc + n = np) (hx : (Int8.ofInt z).toInt32 = x) (kk : Zw S C c g rt K Q (np, L, .int x :: r, u, w)) : Zw S C c g rt K Q (pc, L, r, u, w) := by
  subst e
  subst hx
  exact zs h rfl kk
theorem zr_sipush (np : Nat) {z : Int} {x : Int32} (h : zas K pc = some (.sipush z, n)) (e : pc + n = np) (hx : (Int16.ofInt z).toInt32 = x) (kk : Zw S C c g rt K Q (np, L, .int x :: r, u, w)) : Zw S C c g rt K Q (pc, L, r, u, w) := by
  subst e
  subst hx
  exact zs h rfl kk
theorem zr_lconst (np : Nat) {z : Fin 2} {x : Int64} (h : zas K pc = some (.lconst z, n)) (e : pc + n = np) (hx : Int64.ofNat (z : Nat) = x) (kk : Zw S C c g rt K Q (np, L, .long x :: r, u, w)) : Zw S C c g rt K Q (pc, L, r, u, w) := by
  subst e
  subst hx
  exact zs h rfl kk
theorem zr_ldc (np : Nat) {idx : Nat} {x : Int32} (h : zas K pc = some (.ldc idx, n)) (e : pc + n = np) (hx : zlk zilT c idx = some x) (kk : Zw S C c g rt K Q (np, L, .int x :: r, u, w)) : Zw S C c g rt K Q (pc, L, r, u, w) := by
  subst e
  exact zs h (Or.inl ⟨x, hx, rfl⟩) kk
theorem zr_ldcs (np : Nat) {idx q : Nat} (h : zas K pc = some (.ldc idx, n)) (e : pc + n = np) (hx : zlk ztlT c idx = some q) (kk : Zw S C c g rt K Q (np, L, .retAddr (10 + q) :: r, u, w)) : Zw S C c g rt K Q (pc, L, r, u, w) := by
  subst e
  exact zs h (Or.inr ⟨q, hx, rfl⟩) kk
theorem zr_ldc_w (np : Nat) {idx : Nat} {x : Int32} (h : zas K pc = some (.ldc_w idx, n)) (e : pc + n = np) (hx : zlk zilT c idx = some x) (kk : Zw S C c g rt K Q (np, L, .int x :: r, u, w)) : Zw S C c g rt K Q (pc, L, r, u, w) := by
  subst e
  exact zs h ⟨x, hx, rfl⟩ kk
theorem zr_ldc2_w (np : Nat) {idx : Nat} {x : Int64} (h : zas K pc = some (.ldc2_w idx, n)) (e : pc + n = np) (hx : zlk zllT c idx = some x) (kk : Zw S C c g rt K Q (np, L, .long x :: r, u, w)) : Zw S C c g rt K Q (pc, L, r, u, w) := by
  subst e
  exact zs h ⟨x, hx, rfl⟩ kk
theorem zr_iload (np : Nat) {k : Nat} {x : Int32} (h : zas K pc = some (.iload k, n)) (e : pc + n = np) (hl : zat L k = some (some (.int x))) (kk : Zw S C c g rt K Q (np, L, .int x :: r, u, w)) : Zw S C c g rt K Q (pc, L, r, u, w) := by
  subst e
  exact zs h ⟨x, hl, rfl⟩ kk
theorem zr_iload_n (np : Nat) {k : Fin 4} {x : Int32} (h : zas K pc = some (.iload_n k, n)) (e : pc + n = np) (hl : zat L k = some (some (.int x))) (kk : Zw S C c g rt K Q (np, L, .int x :: r, u, w)) : Zw S C c g rt K Q (pc, L, r, u, w) := by
  subst e
  exact zs h ⟨x, hl, rfl⟩ kk
theorem zr_lload (np : Nat) {k : Nat} {x : Int64} (h : zas K pc = some (.lload k, n)) (e : pc + n = np) (hl : zat L k = some (some (.long x))) (kk : Zw S C c g rt K Q (np, L, .long x :: r, u, w)) : Zw S C c g rt K Q (pc, L, r, u, w) := by
  subst e
  exact zs h ⟨x, hl, rfl⟩ kk
theorem zr_lload_n (np : Nat) {k : Fin 4} {x : Int64} (h : zas K pc = some (.lload_n k, n)) (e : pc + n = np) (hl : zat L k = some (some (.long x))) (kk : Zw S C c g rt K Q (np, L, .long x :: r, u, w)) : Zw S C c g rt K Q (pc, L, r, u, w) := by
  subst e
  exact zs h ⟨x, hl, rfl⟩ kk
theorem zr_aload (np : Nat) {k : Nat} {v : Value} (h : zas K pc = some (.aload k, n)) (e : pc + n = np) (hl : zat L k = some (some v)) (hv : zrf v) (kk : Zw S C c g rt K Q (np, L, v :: r, u, w)) : Zw S C c g rt K Q (pc, L, r, u, w) := by
  subst e
  exact zs h ⟨v, hl, hv, rfl⟩ kk
theorem zr_istore (np : Nat) {k : Nat} {x : Int32} {L2 : zL} (h : zas K pc = some (.istore k, n)) (e : pc + n = np) (hk : (k : Nat) < L.length) (hp : zpv L k) (hL : L.set k (some (.int x)) = L2) (kk : Zw S C c g rt K Q (np, L2, r, u, w)) : Zw S C c g rt K Q (pc, L, .int x :: r, u, w) := by
  subst e
  subst hL
  exact zs h ⟨x, r, rfl, hk, hp, rfl⟩ kk
theorem zr_lstore (np : Nat) {k : Nat} {x : Int64} {L2 : zL} (h : zas K pc = some (.lstore k, n)) (e : pc + n = np) (hk : (k : Nat) + 1 < L.length) (hp : zpv L k) (hL : (L.set k (some (.long x))).set ((k : Nat) + 1) none = L2) (kk : Zw S C c g rt K Q (np, L2, r, u, w)) : Zw S C c g rt K Q (pc, L, .long x :: r, u, w) := by
  subst e
  subst hL
  exact zs h ⟨x, r, rfl, hk, hp, rfl⟩ kk
theorem zr_astore (np : Nat) {k : Nat} {v : Value} {L2 : zL} (h : zas K pc = some (.astore k, n)) (e : pc + n = np) (hv : zrf v) (hk : (k : Nat) < L.length) (hp : zpv L k) (hL : L.set k (some v) = L2) (kk : Zw S C c g rt K Q (np, L2, r, u, w)) : Zw S C c g rt K Q (pc, L, v :: r, u, w) := by
  subst e
  subst hL
  exact zs h ⟨v, r, rfl, hv, hk, hp, rfl⟩ kk
theorem zr_aload_n (np : Nat) {k : Fin 4} {v : Value} (h : zas K pc = some (.aload_n k, n)) (e : pc + n = np) (hl : zat L k = some (some v)) (hv : zrf v) (kk : Zw S C c g rt K Q (np, L, v :: r, u, w)) : Zw S C c g rt K Q (pc, L, r, u, w) := by
  subst e
  exact zs h ⟨v, hl, hv, rfl⟩ kk
theorem zr_istore_n (np : Nat) {k : Fin 4} {x : Int32} {L2 : zL} (h : zas K pc = some (.istore_n k, n)) (e : pc + n = np) (hk : (k : Nat) < L.length) (hp : zpv L k) (hL : L.set k (some (.int x)) = L2) (kk : Zw S C c g rt K Q (np, L2, r, u, w)) : Zw S C c g rt K Q (pc, L, .int x :: r, u, w) := by
  subst e
  subst hL
  exact zs h ⟨x, r, rfl, hk, hp, rfl⟩ kk
theorem zr_lstore_n (np : Nat) {k : Fin 4} {x : Int64} {L2 : zL} (h : zas K pc = some (.lstore_n k, n)) (e : pc + n = np) (hk : (k : Nat) + 1 < L.length) (hp : zpv L k) (hL : (L.set k (some (.long x))).set ((k : Nat) + 1) none = L2) (kk : Zw S C c g rt K Q (np, L2, r, u, w)) : Zw S C c g rt K Q (pc, L, .long x :: r, u, w) := by
  subst e
  subst hL
  exact zs h ⟨x, r, rfl, hk, hp, rfl⟩ kk
theorem zr_astore_n (np : Nat) {k : Fin 4} {v : Value} {L2 : zL} (h : zas K pc = some (.astore_n k, n)) (e : pc + n = np) (hv : zrf v) (hk : (k : Nat) < L.length) (hp : zpv L k) (hL : L.set k (some v) = L2) (kk : Zw S C c g rt K Q (np, L2, r, u, w)) : Zw S C c g rt K Q (pc, L, v :: r, u, w) := by
  subst e
  subst hL
  exact zs h ⟨v, r, rfl, hv, hk, hp, rfl⟩ kk
theorem zr_iinc (np : Nat) {k : Nat} {z : Int} {x c0 : Int32} {L2 : zL} (h : zas K pc = some (.iinc k z, n)) (e : pc + n = np) (hl : zat L k = some (some (.int x))) (hp : zpv L k) (hy : Int32.ofInt z = c0) (hL : L.set k (some (.int (x + c0))) = L2) (kk : Zw S C c g rt K Q (np, L2, r, u, w)) : Zw S C c g rt K Q (pc, L, r, u, w) := by
  subst e
  subst hL
  subst hy
  exact zs h ⟨x, hl, hp, rfl⟩ kk
theorem zr_iadd (np : Nat) {x y : Int32} (h : zas K pc = some (.iadd, n)) (e : pc + n = np) (kk : Zw S C c g rt K Q (np, L, .int (x + y) :: r, u, w)) : Zw S C c g rt K Q (pc, L, .int y :: .int x :: r, u, w) := by
  subst e
  exact zs h ⟨x, y, r, rfl, rfl⟩ kk
theorem zr_isub (np : Nat) {x y : Int32} (h : zas K pc = some (.isub, n)) (e : pc + n = np) (kk : Zw S C c g rt K Q (np, L, .int (x - y) :: r, u, w)) : Zw S C c g rt K Q (pc, L, .int y :: .int x :: r, u, w) := by
  subst e
  exact zs h ⟨x, y, r, rfl, rfl⟩ kk
theorem zr_imul (np : Nat) {x y : Int32} (h : zas K pc = some (.imul, n)) (e : pc + n = np) (kk : Zw S C c g rt K Q (np, L, .int (x * y) :: r, u, w)) : Zw S C c g rt K Q (pc, L, .int y :: .int x :: r, u, w) := by
  subst e
  exact zs h ⟨x, y, r, rfl, rfl⟩ kk
theorem zr_iand (np : Nat) {x y : Int32} (h : zas K pc = some (.iand, n)) (e : pc + n = np) (kk : Zw S C c g rt K Q (np, L, .int (x &&& y) :: r, u, w)) : Zw S C c g rt K Q (pc, L, .int y :: .int x :: r, u, w) := by
  subst e
  exact zs h ⟨x, y, r, rfl, rfl⟩ kk
theorem zr_ior (np : Nat) {x y : Int32} (h : zas K pc = some (.ior, n)) (e : pc + n = np) (kk : Zw S C c g rt K Q (np, L, .int (x ||| y) :: r, u, w)) : Zw S C c g rt K Q (pc, L, .int y :: .int x :: r, u, w) := by
  subst e
  exact zs h ⟨x, y, r, rfl, rfl⟩ kk
theorem zr_ixor (np : Nat) {x y : Int32} (h : zas K pc = some (.ixor, n)) (e : pc + n = np) (kk : Zw S C c g rt K Q (np, L, .int (x ^^^ y) :: r, u, w)) : Zw S C c g rt K Q (pc, L, .int y :: .int x :: r, u, w) := by
  subst e
  exact zs h ⟨x, y, r, rfl, rfl⟩ kk
theorem zr_ishl (np : Nat) {x y : Int32} (h : zas K pc = some (.ishl, n)) (e : pc + n = np) (kk : Zw S C c g rt K Q (np, L, .int (x <<< (y &&& 31)) :: r, u, w)) : Zw S C c g rt K Q (pc, L, .int y :: .int x :: r, u, w) := by
  subst e
  exact zs h ⟨x, y, r, rfl, rfl⟩ kk
theorem zr_ishr (np : Nat) {x y : Int32} (h : zas K pc = some (.ishr, n)) (e : pc + n = np) (kk : Zw S C c g rt K Q (np, L, .int (x >>> (y &&& 31)) :: r, u, w)) : Zw S C c g rt K Q (pc, L, .int y :: .int x :: r, u, w) := by
  subst e
  exact zs h ⟨x, y, r, rfl, rfl⟩ kk
theorem zr_iushr (np : Nat) {x y : Int32} (h : zas K pc = some (.iushr, n)) (e : pc + n = np) (kk : Zw S C c g rt K Q (np, L, .int (x.toUInt32 >>> (y.toUInt32 &&& Int32.toUInt32 31)).toInt32 :: r, u, w)) : Zw S C c g rt K Q (pc, L, .int y :: .int x :: r, u, w) := by
  subst e
  exact zs h ⟨x, y, r, rfl, rfl⟩ kk
theorem zr_idiv (np : Nat) {x y : Int32} (h : zas K pc = some (.idiv, n)) (e : pc + n = np) (hy : ¬ y = 0) (kk : Zw S C c g rt K Q (np, L, .int (x / y) :: r, u, w)) : Zw S C c g rt K Q (pc, L, .int y :: .int x :: r, u, w) := by
  subst e
  exact zs h ⟨x, y, r, rfl, hy, rfl⟩ kk
theorem zr_irem (np : Nat) {x y : Int32} (h : zas K pc = some (.irem, n)) (e : pc + n = np) (hy : ¬ y = 0) (kk : Zw S C c g rt K Q (np, L, .int (x - x / y * y) :: r, u, w)) : Zw S C c g rt K Q (pc, L, .int y :: .int x :: r, u, w) := by
  subst e
  exact zs h ⟨x, y, r, rfl, hy, rfl⟩ kk
theorem zr_i2l (np : Nat) {x : Int32} (h : zas K pc = some (.i2l, n)) (e : pc + n = np) (kk : Zw S C c g rt K Q (np, L, .long x.toInt64 :: r, u, w)) : Zw S C c g rt K Q (pc, L, .int x :: r, u, w) := by
  subst e
  exact zs h ⟨x, r, rfl, rfl⟩ kk
theorem zr_l2i (np : Nat) {x : Int64} (h : zas K pc = some (.l2i, n)) (e : pc + n = np) (kk : Zw S C c g rt K Q (np, L, .int x.toInt32 :: r, u, w)) : Zw S C c g rt K Q (pc, L, .long x :: r, u, w) := by
  subst e
  exact zs h ⟨x, r, rfl, rfl⟩ kk
theorem zr_i2b (np : Nat) {x : Int32} (h : zas K pc = some (.i2b, n)) (e : pc + n = np) (kk : Zw S C c g rt K Q (np, L, .int x.toInt8.toInt32 :: r, u, w)) : Zw S C c g rt K Q (pc, L, .int x :: r, u, w) := by
  subst e
  exact zs h ⟨x, r, rfl, rfl⟩ kk
theorem zr_i2s (np : Nat) {x : Int32} (h : zas K pc = some (.i2s, n)) (e : pc + n = np) (kk : Zw S C c g rt K Q (np, L, .int x.toInt16.toInt32 :: r, u, w)) : Zw S C c g rt K Q (pc, L, .int x :: r, u, w) := by
  subst e
  exact zs h ⟨x, r, rfl, rfl⟩ kk
theorem zr_i2c (np : Nat) {x : Int32} (h : zas K pc = some (.i2c, n)) (e : pc + n = np) (kk : Zw S C c g rt K Q (np, L, .int (x.toUInt32 % 65536).toInt32 :: r, u, w)) : Zw S C c g rt K Q (pc, L, .int x :: r, u, w) := by
  subst e
  exact zs h ⟨x, r, rfl, rfl⟩ kk
theorem zr_ladd (np : Nat) {x y : Int64} (h : zas K pc = some (.ladd, n)) (e : pc + n = np) (kk : Zw S C c g rt K Q (np, L, .long (x + y) :: r, u, w)) : Zw S C c g rt K Q (pc, L, .long y :: .long x :: r, u, w) := by
  subst e
  exact zs h ⟨x, y, r, rfl, rfl⟩ kk
theorem zr_lsub (np : Nat) {x y : Int64} (h : zas K pc = some (.lsub, n)) (e : pc + n = np) (kk : Zw S C c g rt K Q (np, L, .long (x - y) :: r, u, w)) : Zw S C c g rt K Q (pc, L, .long y :: .long x :: r, u, w) := by
  subst e
  exact zs h ⟨x, y, r, rfl, rfl⟩ kk
theorem zr_lmul (np : Nat) {x y : Int64} (h : zas K pc = some (.lmul, n)) (e : pc + n = np) (kk : Zw S C c g rt K Q (np, L, .long (x * y) :: r, u, w)) : Zw S C c g rt K Q (pc, L, .long y :: .long x :: r, u, w) := by
  subst e
  exact zs h ⟨x, y, r, rfl, rfl⟩ kk
theorem zr_land (np : Nat) {x y : Int64} (h : zas K pc = some (.land, n)) (e : pc + n = np) (kk : Zw S C c g rt K Q (np, L, .long (x &&& y) :: r, u, w)) : Zw S C c g rt K Q (pc, L, .long y :: .long x :: r, u, w) := by
  subst e
  exact zs h ⟨x, y, r, rfl, rfl⟩ kk
theorem zr_lor (np : Nat) {x y : Int64} (h : zas K pc = some (.lor, n)) (e : pc + n = np) (kk : Zw S C c g rt K Q (np, L, .long (x ||| y) :: r, u, w)) : Zw S C c g rt K Q (pc, L, .long y :: .long x :: r, u, w) := by
  subst e
  exact zs h ⟨x, y, r, rfl, rfl⟩ kk
theorem zr_lshl (np : Nat) {x : Int64} {y : Int32} (h : zas K pc = some (.lshl, n)) (e : pc + n = np) (kk : Zw S C c g rt K Q (np, L, .long (x <<< (y.toInt64 &&& 63)) :: r, u, w)) : Zw S C c g rt K Q (pc, L, .int y :: .long x :: r, u, w) := by
  subst e
  exact zs h ⟨x, y, r, rfl, rfl⟩ kk
theorem zr_lshr (np : Nat) {x : Int64} {y : Int32} (h : zas K pc = some (.lshr, n)) (e : pc + n = np) (kk : Zw S C c g rt K Q (np, L, .long (x >>> (y.toInt64 &&& 63)) :: r, u, w)) : Zw S C c g rt K Q (pc, L, .int y :: .long x :: r, u, w) := by
  subst e
  exact zs h ⟨x, y, r, rfl, rfl⟩ kk
theorem zr_lushr (np : Nat) {x : Int64} {y : Int32} (h : zas K pc = some (.lushr, n)) (e : pc + n = np) (kk : Zw S C c g rt K Q (np, L, .long (x.toUInt64 >>> (y.toInt64.toUInt64 &&& Int64.toUInt64 63)).toInt64 :: r, u, w)) : Zw S C c g rt K Q (pc, L, .int y :: .long x :: r, u, w) := by
  subst e
  exact zs h ⟨x, y, r, rfl, rfl⟩ kk
theorem zr_lcmp (np : Nat) {x y : Int64} (h : zas K pc = some (.lcmp, n)) (e : pc + n = np) (kk : Zw S C c g rt K Q (np, L, .int (lg_cmp x y) :: r, u, w)) : Zw S C c g rt K Q (pc, L, .long y :: .long x :: r, u, w) := by
  subst e
  exact zs h ⟨x, y, r, rfl, rfl⟩ kk
theorem zr_dup (np : Nat) {v : Value} (h : zas K pc = some (.dup, n)) (e : pc + n = np) (hv : v.category = 1) (kk : Zw S C c g rt K Q (np, L, v :: v :: r, u, w)) : Zw S C c g rt K Q (pc, L, v :: r, u, w) := by
  subst e
  exact zs h ⟨v, r, rfl, hv, rfl⟩ kk
theorem zr_pop (np : Nat) {v : Value} (h : zas K pc = some (.pop, n)) (e : pc + n = np) (hv : v.category = 1) (kk : Zw S C c g rt K Q (np, L, r, u, w)) : Zw S C c g rt K Q (pc, L, v :: r, u, w) := by
  subst e
  exact zs h ⟨v, r, rfl, hv, rfl⟩ kk
theorem zr_dup2 (np : Nat) {v v2 : Value} (h : zas K pc = some (.dup2, n)) (e : pc + n = np) (hv : v.category = 1) (hv2 : v2.category = 1) (kk : Zw S C c g rt K Q (np, L, v :: v2 :: v :: v2 :: r, u, w)) : Zw S C c g rt K Q (pc, L, v :: v2 :: r, u, w) := by
  subst e
  exact zs h ⟨v, v2, r, rfl, hv, hv2, rfl⟩ kk
theorem zr_goto (t : Nat) {off : Int} (h : zas K pc = some (.goto off, n)) (e : (pc : Int) + off = (t : Int)) (kk : Zw S C c g rt K Q (t, L, r, u, w)) : Zw S C c g rt K Q (pc, L, r, u, w) := zs h ⟨t, e, rfl⟩ kk
theorem zr_if_eq (t np : Nat) {off : Int} {x : Int32} (h : zas K pc = some (.ifCond .eq off, n)) (e : pc + n = np) (et : (pc : Int) + off = (t : Int)) (kt : x = 0 → Zw S C c g rt K Q (t, L, r, u, w)) (kf : ¬ x = 0 → Zw S C c g rt K Q (np, L, r, u, w)) : Zw S C c g rt K Q (pc, L, .int x :: r, u, w) := by
  subst e
  by_cases hc : x = 0
  · exact zs h ⟨t, x, r, et, rfl, Or.inl ⟨hc, rfl⟩⟩ (kt hc)
  · exact zs h ⟨t, x, r, et, rfl, Or.inr ⟨hc, rfl⟩⟩ (kf hc)
theorem zr_icmp_eq (t np : Nat) {off : Int} {x y : Int32} (h : zas K pc = some (.if_icmp .eq off, n)) (e : pc + n = np) (et : (pc : Int) + off = (t : Int)) (kt : x = y → Zw S C c g rt K Q (t, L, r, u, w)) (kf : ¬ x = y → Zw S C c g rt K Q (np, L, r, u, w)) : Zw S C c g rt K Q (pc, L, .int y :: .int x :: r, u, w) := by
  subst e
  by_cases hc : x = y
  · exact zs h ⟨t, x, y, r, et, rfl, Or.inl ⟨hc, rfl⟩⟩ (kt hc)
  · exact zs h ⟨t, x, y, r, et, rfl, Or.inr ⟨hc, rfl⟩⟩ (kf hc)
theorem zr_if_ne (t np : Nat) {off : Int} {x : Int32} (h : zas K pc = some (.ifCond .ne off, n)) (e : pc + n = np) (et : (pc : Int) + off = (t : Int)) (kt : ¬ x = 0 → Zw S C c g rt K Q (t, L, r, u, w)) (kf : x = 0 → Zw S C c g rt K Q (np, L, r, u, w)) : Zw S C c g rt K Q (pc, L, .int x :: r, u, w) := by
  subst e
  by_cases hc : ¬ x = 0
  · exact zs h ⟨t, x, r, et, rfl, Or.inl ⟨hc, rfl⟩⟩ (kt hc)
  · exact zs h ⟨t, x, r, et, rfl, Or.inr ⟨Decidable.not_not.mp hc, rfl⟩⟩ (kf (Decidable.not_not.mp hc))
theorem zr_icmp_ne (t np : Nat) {off : Int} {x y : Int32} (h : zas K pc = some (.if_icmp .ne off, n)) (e : pc + n = np) (et : (pc : Int) + off = (t : Int)) (kt : ¬ x = y → Zw S C c g rt K Q (t, L, r, u, w)) (kf : x = y → Zw S C c g rt K Q (np, L, r, u, w)) : Zw S C c g rt K Q (pc, L, .int y :: .int x :: r, u, w) := by
  subst e
  by_cases hc : ¬ x = y
  · exact zs h ⟨t, x, y, r, et, rfl, Or.inl ⟨hc, rfl⟩⟩ (kt hc)
  · exact zs h ⟨t, x, y, r, et, rfl, Or.inr ⟨Decidable.not_not.mp hc, rfl⟩⟩ (kf (Decidable.not_not.mp hc))
theorem zr_if_lt (t np : Nat) {off : Int} {x : Int32} (h : zas K pc = some (.ifCond .lt off, n)) (e : pc + n = np) (et : (pc : Int) + off = (t : Int)) (kt : x < 0 → Zw S C c g rt K Q (t, L, r, u, w)) (kf : ¬ x < 0 → Zw S C c g rt K Q (np, L, r, u, w)) : Zw S C c g rt K Q (pc, L, .int x :: r, u, w) := by
  subst e
  by_cases hc : x < 0
  · exact zs h ⟨t, x, r, et, rfl, Or.inl ⟨hc, rfl⟩⟩ (kt hc)
  · exact zs h ⟨t, x, r, et, rfl, Or.inr ⟨hc, rfl⟩⟩ (kf hc)
theorem zr_icmp_lt (t np : Nat) {off : Int} {x y : Int32} (h : zas K pc = some (.if_icmp .lt off, n)) (e : pc + n = np) (et : (pc : Int) + off = (t : Int)) (kt : x < y → Zw S C c g rt K Q (t, L, r, u, w)) (kf : ¬ x < y → Zw S C c g rt K Q (np, L, r, u, w)) : Zw S C c g rt K Q (pc, L, .int y :: .int x :: r, u, w) := by
  subst e
  by_cases hc : x < y
  · exact zs h ⟨t, x, y, r, et, rfl, Or.inl ⟨hc, rfl⟩⟩ (kt hc)
  · exact zs h ⟨t, x, y, r, et, rfl, Or.inr ⟨hc, rfl⟩⟩ (kf hc)
theorem zr_if_ge (t np : Nat) {off : Int} {x : Int32} (h : zas K pc = some (.ifCond .ge off, n)) (e : pc + n = np) (et : (pc : Int) + off = (t : Int)) (kt : 0 ≤ x → Zw S C c g rt K Q (t, L, r, u, w)) (kf : ¬ 0 ≤ x → Zw S C c g rt K Q (np, L, r, u, w)) : Zw S C c g rt K Q (pc, L, .int x :: r, u, w) := by
  subst e
  by_cases hc : 0 ≤ x
  · exact zs h ⟨t, x, r, et, rfl, Or.inl ⟨hc, rfl⟩⟩ (kt hc)
  · exact zs h ⟨t, x, r, et, rfl, Or.inr ⟨hc, rfl⟩⟩ (kf hc)
theorem zr_icmp_ge (t np : Nat) {off : Int} {x y : Int32} (h : zas K pc = some (.if_icmp .ge off, n)) (e : pc + n = np) (et : (pc : Int) + off = (t : Int)) (kt : y ≤ x → Zw S C c g rt K Q (t, L, r, u, w)) (kf : ¬ y ≤ x → Zw S C c g rt K Q (np, L, r, u, w)) : Zw S C c g rt K Q (pc, L, .int y :: .int x :: r, u, w) := by
  subst e
  by_cases hc : y ≤ x
  · exact zs h ⟨t, x, y, r, et, rfl, Or.inl ⟨hc, rfl⟩⟩ (kt hc)
  · exact zs h ⟨t, x, y, r, et, rfl, Or.inr ⟨hc, rfl⟩⟩ (kf hc)
theorem zr_if_gt (t np : Nat) {off : Int} {x : Int32} (h : zas K pc = some (.ifCond .gt off, n)) (e : pc + n = np) (et : (pc : Int) + off = (t : Int)) (kt : 0 < x → Zw S C c g rt K Q (t, L, r, u, w)) (kf : ¬ 0 < x → Zw S C c g rt K Q (np, L, r, u, w)) : Zw S C c g rt K Q (pc, L, .int x :: r, u, w) := by
  subst e
  by_cases hc : 0 < x
  · exact zs h ⟨t, x, r, et, rfl, Or.inl ⟨hc, rfl⟩⟩ (kt hc)
  · exact zs h ⟨t, x, r, et, rfl, Or.inr ⟨hc, rfl⟩⟩ (kf hc)
theorem zr_icmp_gt (t np : Nat) {off : Int} {x y : Int32} (h : zas K pc = some (.if_icmp .gt off, n)) (e : pc + n = np) (et : (pc : Int) + off = (t : Int)) (kt : y < x → Zw S C c g rt K Q (t, L, r, u, w)) (kf : ¬ y < x → Zw S C c g rt K Q (np, L, r, u, w)) : Zw S C c g rt K Q (pc, L, .int y :: .int x :: r, u, w) := by
  subst e
  by_cases hc : y < x
  · exact zs h ⟨t, x, y, r, et, rfl, Or.inl ⟨hc, rfl⟩⟩ (kt hc)
  · exact zs h ⟨t, x, y, r, et, rfl, Or.inr ⟨hc, rfl⟩⟩ (kf hc)
theorem zr_if_le (t np : Nat) {off : Int} {x : Int32} (h : zas K pc = some (.ifCond .le off, n)) (e : pc + n = np) (et : (pc : Int) + off = (t : Int)) (kt : x ≤ 0 → Zw S C c g rt K Q (t, L, r, u, w)) (kf : ¬ x ≤ 0 → Zw S C c g rt K Q (np, L, r, u, w)) : Zw S C c g rt K Q (pc, L, .int x :: r, u, w) := by
  subst e
  by_cases hc : x ≤ 0
  · exact zs h ⟨t, x, r, et, rfl, Or.inl ⟨hc, rfl⟩⟩ (kt hc)
  · exact zs h ⟨t, x, r, et, rfl, Or.inr ⟨hc, rfl⟩⟩ (kf hc)
theorem zr_icmp_le (t np : Nat) {off : Int} {x y : Int32} (h : zas K pc = some (.if_icmp .le off, n)) (e : pc + n = np) (et : (pc : Int) + off = (t : Int)) (kt : x ≤ y → Zw S C c g rt K Q (t, L, r, u, w)) (kf : ¬ x ≤ y → Zw S C c g rt K Q (np, L, r, u, w)) : Zw S C c g rt K Q (pc, L, .int y :: .int x :: r, u, w) := by
  subst e
  by_cases hc : x ≤ y
  · exact zs h ⟨t, x, y, r, et, rfl, Or.inl ⟨hc, rfl⟩⟩ (kt hc)
  · exact zs h ⟨t, x, y, r, et, rfl, Or.inr ⟨hc, rfl⟩⟩ (kf hc)
theorem zr_ifnull_n (t : Nat) {off : Int} (h : zas K pc = some (.ifnull off, n)) (et : (pc : Int) + off = (t : Int)) (kk : Zw S C c g rt K Q (t, L, r, u, w)) : Zw S C c g rt K Q (pc, L, .null :: r, u, w) := zs h ⟨t, .null, r, et, rfl, Or.inl ⟨rfl, rfl⟩⟩ kk
theorem zr_ifnull_r (t np : Nat) {off : Int} {a : Nat} (h : zas K pc = some (.ifnull off, n)) (e : pc + n = np) (et : (pc : Int) + off = (t : Int)) (kk : Zw S C c g rt K Q (np, L, r, u, w)) : Zw S C c g rt K Q (pc, L, .ref a :: r, u, w) := by
  subst e
  exact zs h ⟨t, .ref a, r, et, rfl, Or.inr ⟨⟨a, rfl⟩, rfl⟩⟩ kk
theorem zr_ifnonnull_r (t : Nat) {off : Int} {a : Nat} (h : zas K pc = some (.ifnonnull off, n)) (et : (pc : Int) + off = (t : Int)) (kk : Zw S C c g rt K Q (t, L, r, u, w)) : Zw S C c g rt K Q (pc, L, .ref a :: r, u, w) := zs h ⟨t, .ref a, r, et, rfl, Or.inl ⟨⟨a, rfl⟩, rfl⟩⟩ kk
theorem zr_ifnonnull_n (t np : Nat) {off : Int} (h : zas K pc = some (.ifnonnull off, n)) (e : pc + n = np) (et : (pc : Int) + off = (t : Int)) (kk : Zw S C c g rt K Q (np, L, r, u, w)) : Zw S C c g rt K Q (pc, L, .null :: r, u, w) := by
  subst e
  exact zs h ⟨t, .null, r, et, rfl, Or.inr ⟨rfl, rfl⟩⟩ kk
theorem zr_tsw_out (t : Nat) {df lo hi : Int} {offs : Array Int} {x : Int32} (h : zas K pc = some (.tableswitch df lo hi offs, n)) (ho : x.toInt < lo ∨ hi < x.toInt) (et : (pc : Int) + df = (t : Int)) (kk : Zw S C c g rt K Q (t, L, r, u, w)) : Zw S C c g rt K Q (pc, L, .int x :: r, u, w) := zs h ⟨t, x, r, rfl, Or.inl ⟨ho, et⟩, rfl⟩ kk
theorem zr_tsw_in (t k : Nat) {df lo hi off : Int} {offs : Array Int} {x : Int32} (h : zas K pc = some (.tableswitch df lo hi offs, n)) (hx : x.toInt = lo + k) (hh : lo + k ≤ hi) (ho : offs[k]? = some off) (et : (pc : Int) + off = (t : Int)) (kk : Zw S C c g rt K Q (t, L, r, u, w)) : Zw S C c g rt K Q (pc, L, .int x :: r, u, w) := zs h ⟨t, x, r, rfl, Or.inr ⟨by omega, by omega, off, by rw [show (x.toInt - lo).toNat = k by omega]; exact ho, et⟩, rfl⟩ kk
theorem zr_lsw (t : Nat) {df off : Int} {ps : Array (Int × Int)} {x : Int32} (h : zas K pc = some (.lookupswitch df ps, n)) (hs : (ps.toList.zip (ps.toList.drop 1)).all (fun (a, next) => a.1 < next.1) = true) (ho : Op.lookupswitch.offset ps.toList df x.toInt = off) (et : (pc : Int) + off = (t : Int)) (kk : Zw S C c g rt K Q (t, L, r, u, w)) : Zw S C c g rt K Q (pc, L, .int x :: r, u, w) := zs h ⟨t, x, r, rfl, hs, by rw [ho]; exact et, rfl⟩ kk
theorem zr_getf (np : Nat) {idx a ci k : Nat} {fs : List Value} {v : Value} (h : zas K pc = some (.getfield idx, n)) (e : pc + n = np) (hl : zlk zflT c idx = some (ci, k)) (hw : w.2 a = .inr (ci, fs)) (hv : zat fs k = some v) (kk : Zw S C c g rt K Q (np, L, v :: r, u, w)) : Zw S C c g rt K Q (pc, L, .ref a :: r, u, w) := by
  subst e
  exact zs h (Or.inl ⟨a, r, ci, k, fs, v, rfl, hl, hw, hv, rfl⟩) kk
theorem zr_putf (np : Nat) {idx a ci k : Nat} {fs : List Value} {v : Value} {q : Nat × Bool} {w2 : zW} (h : zas K pc = some (.putfield idx, n)) (e : pc + n = np) (hl : zlk zflT c idx = some (ci, k)) (hw : w.2 a = .inr (ci, fs)) (hk : k < fs.length) (hq : zR.zlk2 ci k = some q) (hf : zfit q.1 v) (hg : q.2 = true → g = true ∧ ci = c) (hs : zset w a (.inr (ci, fs.set k v)) = w2) (kk : Zw S C c g rt K Q (np, L, r, u, w2)) : Zw S C c g rt K Q (pc, L, v :: .ref a :: r, u, w) := by
  subst e
  subst hs
  exact zs h ⟨v, a, r, ci, k, fs, q, rfl, hl, hw, hk, hq, hf, hg, rfl⟩ kk
theorem zr_gets (np : Nat) {idx q : Nat} (h : zas K pc = some (.getstatic idx, n)) (e : pc + n = np) (hl : zlk zslT c idx = some q) (kk : Zw S C c g rt K Q (np, L, .retAddr q :: r, u, w)) : Zw S C c g rt K Q (pc, L, r, u, w) := by
  subst e
  exact zs h (Or.inl ⟨q, hl, rfl⟩) kk
theorem zr_iald (np : Nat) {x : Int32} {a m i : Nat} {f : Nat → Int32} (h : zas K pc = some (.iaload, n)) (e : pc + n = np) (hw : w.2 a = zai m f) (hi : x.toNatClampNeg = i) (hb : vp_in x m) (kk : Zw S C c g rt K Q (np, L, .int (f i) :: r, u, w)) : Zw S C c g rt K Q (pc, L, .int x :: .ref a :: r, u, w) := by
  subst e
  subst hi
  exact zs h (Or.inl ⟨x, a, r, m, f, rfl, hw, hb, rfl⟩) kk
theorem zr_ialc (np : Nat) {x : Int32} {q i : Nat} (h : zas K pc = some (.iaload, n)) (e : pc + n = np) (hq : q < 5) (hi : x.toNatClampNeg = i) (hb : vp_in x (zct S q).1) (kk : Zw S C c g rt K Q (np, L, .int ((zct S q).2 i) :: r, u, w)) : Zw S C c g rt K Q (pc, L, .int x :: .retAddr q :: r, u, w) := by
  subst e
  subst hi
  exact zs h (Or.inr ⟨x, q, r, rfl, hq, hb, rfl⟩) kk
theorem zr_bald (np : Nat) {x : Int32} {a m i : Nat} {f : Nat → Int32} (h : zas K pc = some (.baload, n)) (e : pc + n = np) (hw : w.2 a = zab m f) (hi : x.toNatClampNeg = i) (hb : vp_in x m) (kk : Zw S C c g rt K Q (np, L, .int (f i) :: r, u, w)) : Zw S C c g rt K Q (pc, L, .int x :: .ref a :: r, u, w) := by
  subst e
  subst hi
  exact zs h (Or.inl ⟨x, a, r, m, f, rfl, hw, hb, rfl⟩) kk
theorem zr_lald (np : Nat) {x : Int32} {a m i : Nat} {f : Nat → Int64} (h : zas K pc = some (.laload, n)) (e : pc + n = np) (hw : w.2 a = zal m f) (hi : x.toNatClampNeg = i) (hb : vp_in x m) (kk : Zw S C c g rt K Q (np, L, .long (f i) :: r, u, w)) : Zw S C c g rt K Q (pc, L, .int x :: .ref a :: r, u, w) := by
  subst e
  subst hi
  exact zs h ⟨x, a, r, m, f, rfl, hw, hb, rfl⟩ kk
theorem zr_aald (np : Nat) {x : Int32} {a t m i : Nat} {f : Nat → Option Nat} {v : Value} (h : zas K pc = some (.aaload, n)) (e : pc + n = np) (hw : w.2 a = zaq t m f) (ht : t = 3 ∨ t = 4) (hi : x.toNatClampNeg = i) (hb : vp_in x m) (hv : va_rf (f i) = v) (kk : Zw S C c g rt K Q (np, L, v :: r, u, w)) : Zw S C c g rt K Q (pc, L, .int x :: .ref a :: r, u, w) := by
  subst e
  subst hi
  subst hv
  exact zs h ⟨x, a, r, t, m, f, rfl, hw, ht, hb, rfl⟩ kk
theorem zr_iast (np : Nat) {v x : Int32} {a m i : Nat} {f : Nat → Int32} {w2 : zW} (h : zas K pc = some (.iastore, n)) (e : pc + n = np) (hw : w.2 a = zai m f) (hi : x.toNatClampNeg = i) (hb : vp_in x m) (hs : zset w a (zai m (upd f i v)) = w2) (kk : Zw S C c g rt K Q (np, L, r, u, w2)) : Zw S C c g rt K Q (pc, L, .int v :: .int x :: .ref a :: r, u, w) := by
  subst e
  subst hs
  subst hi
  exact zs h ⟨v, x, a, r, m, f, rfl, hw, hb, rfl⟩ kk
theorem zr_bast (np : Nat) {v x : Int32} {a m i : Nat} {f : Nat → Int32} {w2 : zW} (h : zas K pc = some (.bastore, n)) (e : pc + n = np) (hw : w.2 a = zab m f) (hi : x.toNatClampNeg = i) (hb : vp_in x m) (hs : zset w a (zab m (upd f i (vp_nar .byte v))) = w2) (kk : Zw S C c g rt K Q (np, L, r, u, w2)) : Zw S C c g rt K Q (pc, L, .int v :: .int x :: .ref a :: r, u, w) := by
  subst e
  subst hs
  subst hi
  exact zs h ⟨v, x, a, r, m, f, rfl, hw, hb, rfl⟩ kk
theorem zr_last (np : Nat) {v : Int64} {x : Int32} {a m i : Nat} {f : Nat → Int64} {w2 : zW} (h : zas K pc = some (.lastore, n)) (e : pc + n = np) (hw : w.2 a = zal m f) (hi : x.toNatClampNeg = i) (hb : vp_in x m) (hs : zset w a (zal m (vp_updL f i v)) = w2) (kk : Zw S C c g rt K Q (np, L, r, u, w2)) : Zw S C c g rt K Q (pc, L, .long v :: .int x :: .ref a :: r, u, w) := by
  subst e
  subst hs
  subst hi
  exact zs h ⟨v, x, a, r, m, f, rfl, hw, hb, rfl⟩ kk
theorem zr_aast (np : Nat) {b : Option Nat} {v : Value} {x : Int32} {a t m i : Nat} {f : Nat → Option Nat} {w2 : zW} (h : zas K pc = some (.aastore, n)) (e : pc + n = np) (hv : va_rf b = v) (hw : w.2 a = zaq t m f) (hi : x.toNatClampNeg = i) (hb : vp_in x m) (ht : t = 3 ∨ t = 4) (hc : ∀ y, b = some y → ∃ fs, w.2 y = .inr (t - 2, fs)) (hs : zset w a (zaq t m (va_up f i b)) = w2) (kk : Zw S C c g rt K Q (np, L, r, u, w2)) : Zw S C c g rt K Q (pc, L, v :: .int x :: .ref a :: r, u, w) := by
  subst e
  subst hv
  subst hs
  subst hi
  exact zs h ⟨b, x, a, r, t, m, f, rfl, hw, hb, ht, hc, rfl⟩ kk
theorem zr_alen (np : Nat) {a t : Nat} {z : vp_A} {x : Int32} (h : zas K pc = some (.arraylength, n)) (e : pc + n = np) (hw : w.2 a = .inl (t, z)) (ht : t < 5) (hx : Int32.ofNat z.1 = x) (kk : Zw S C c g rt K Q (np, L, .int x :: r, u, w)) : Zw S C c g rt K Q (pc, L, .ref a :: r, u, w) := by
  subst e
  subst hx
  exact zs h (Or.inl ⟨a, r, t, z, rfl, hw, ht, rfl⟩) kk
theorem zr_alenc (np : Nat) {q : Nat} {x : Int32} (h : zas K pc = some (.arraylength, n)) (e : pc + n = np) (hq : q < 5) (hx : Int32.ofNat (zct S q).1 = x) (kk : Zw S C c g rt K Q (np, L, .int x :: r, u, w)) : Zw S C c g rt K Q (pc, L, .retAddr q :: r, u, w) := by
  subst e
  subst hx
  exact zs h (Or.inr (Or.inl ⟨q, r, rfl, hq, rfl⟩)) kk
theorem zr_new (np : Nat) {idx ci : Nat} {fs : List Value} {u2 : Nat × Nat} {w2 : zW} (h : zas K pc = some (.new idx, n)) (e : pc + n = np) (hc : zlk zclT c idx = some ci) (hf : zat zdfT ci = some fs) (h1 : 1 ≤ u.1) (h2 : fs.length ≤ u.2) (hu : (u.1 - 1, u.2 - fs.length) = u2) (hs : zpush w (.inr (ci, fs)) = w2) (kk : Zw S C c g rt K Q (np, L, .ref w.1 :: r, u2, w2)) : Zw S C c g rt K Q (pc, L, r, u, w) := by
  subst e
  subst hs
  subst hu
  exact zs h ⟨ci, fs, hc, hf, h1, h2, rfl⟩ kk
theorem zr_newa_int (np : Nat) {x : Int32} {m : Nat} {u2 : Nat × Nat} {w2 : zW} (h : zas K pc = some (.newarray .int, n)) (e : pc + n = np) (h0 : ¬ x < 0) (hm : x.toNatClampNeg = m) (h3 : m ≤ 1000) (h1 : 1 ≤ u.1) (h2 : m ≤ u.2) (hu : (u.1 - 1, u.2 - m) = u2) (hs : zpush w (zai m (fun _ => 0)) = w2) (kk : Zw S C c g rt K Q (np, L, .ref w.1 :: r, u2, w2)) : Zw S C c g rt K Q (pc, L, .int x :: r, u, w) := by
  subst e
  subst hs
  subst hu
  subst hm
  exact zs h ⟨x, r, rfl, h0, h3, h1, h2, rfl⟩ kk
theorem zr_newa_long (np : Nat) {x : Int32} {m : Nat} {u2 : Nat × Nat} {w2 : zW} (h : zas K pc = some (.newarray .long, n)) (e : pc + n = np) (h0 : ¬ x < 0) (hm : x.toNatClampNeg = m) (h3 : m ≤ 1000) (h1 : 1 ≤ u.1) (h2 : m ≤ u.2) (hu : (u.1 - 1, u.2 - m) = u2) (hs : zpush w (zal m (fun _ => 0)) = w2) (kk : Zw S C c g rt K Q (np, L, .ref w.1 :: r, u2, w2)) : Zw S C c g rt K Q (pc, L, .int x :: r, u, w) := by
  subst e
  subst hs
  subst hu
  subst hm
  exact zs h ⟨x, r, rfl, h0, h3, h1, h2, rfl⟩ kk
theorem zr_newa_byte (np : Nat) {x : Int32} {m : Nat} {u2 : Nat × Nat} {w2 : zW} (h : zas K pc = some (.newarray .byte, n)) (e : pc + n = np) (h0 : ¬ x < 0) (hm : x.toNatClampNeg = m) (h3 : m ≤ 1000) (h1 : 1 ≤ u.1) (h2 : m ≤ u.2) (hu : (u.1 - 1, u.2 - m) = u2) (hs : zpush w (zab m (fun _ => 0)) = w2) (kk : Zw S C c g rt K Q (np, L, .ref w.1 :: r, u2, w2)) : Zw S C c g rt K Q (pc, L, .int x :: r, u, w) := by
  subst e
  subst hs
  subst hu
  subst hm
  exact zs h ⟨x, r, rfl, h0, h3, h1, h2, rfl⟩ kk
theorem zr_newq (np : Nat) {idx t : Nat} {x : Int32} {m : Nat} {u2 : Nat × Nat} {w2 : zW} (h : zas K pc = some (.anewarray idx, n)) (e : pc + n = np) (ht : zlk zalT c idx = some t) (h0 : ¬ x < 0) (hm : x.toNatClampNeg = m) (h3 : m ≤ 1000) (h1 : 1 ≤ u.1) (h2 : m ≤ u.2) (hu : (u.1 - 1, u.2 - m) = u2) (hs : zpush w (zaq t m (fun _ => none)) = w2) (kk : Zw S C c g rt K Q (np, L, .ref w.1 :: r, u2, w2)) : Zw S C c g rt K Q (pc, L, .int x :: r, u, w) := by
  subst e
  subst hs
  subst hu
  subst hm
  exact zs h ⟨x, r, t, rfl, ht, h0, h3, h1, h2, rfl⟩ kk
theorem zr_oinit (np : Nat) {idx a : Nat} (h : zas K pc = some (.invokespecial idx, n)) (e : pc + n = np) (hm : zlk zmlT c idx = some 1000) (hr : zcat r ≤ 8) (kk : Zw S C c g rt K Q (np, L, r, u, w)) : Zw S C c g rt K Q (pc, L, .ref a :: r, u, w) := by
  subst e
  exact zs h ⟨a, r, hm, rfl, hr, rfl⟩ kk
theorem zr_max (np : Nat) {idx : Nat} {x y z : Int32} (h : zas K pc = some (.invokestatic idx, n)) (e : pc + n = np) (hm : zlk zmlT c idx = some 1004) (hr : zcat r ≤ 8) (hz : (if x < y then y else x) = z) (kk : Zw S C c g rt K Q (np, L, .int z :: r, u, w)) : Zw S C c g rt K Q (pc, L, .int y :: .int x :: r, u, w) := by
  subst e
  subst hz
  exact zs h (Or.inr (Or.inl ⟨hm, x, y, r, rfl, hr, rfl⟩)) kk
theorem zr_min (np : Nat) {idx : Nat} {x y z : Int32} (h : zas K pc = some (.invokestatic idx, n)) (e : pc + n = np) (hm : zlk zmlT c idx = some 1005) (hr : zcat r ≤ 8) (hz : (if y < x then y else x) = z) (kk : Zw S C c g rt K Q (np, L, .int z :: r, u, w)) : Zw S C c g rt K Q (pc, L, .int y :: .int x :: r, u, w) := by
  subst e
  subst hz
  exact zs h (Or.inr (Or.inr ⟨hm, x, y, r, rfl, hr, rfl⟩)) kk
theorem zr_acopy (np : Nat) {idx d m : Nat} {k dp sp : Int32} {s0 : Value} {f : Nat → Int32} {m0 : Nat} {f0 : Nat → Int32} {k1 dp1 sp1 : Nat} {w2 : zW} (h : zas K pc = some (.invokestatic idx, n)) (e : pc + n = np) (hm : zlk zmlT c idx = some 1001) (hr : zcat r ≤ 8) (hw : w.2 d = zai m f) (h1 : ¬ sp < 0) (h2 : ¬ dp < 0) (h3 : ¬ k < 0) (ek : k.toNatClampNeg = k1) (ed : dp.toNatClampNeg = dp1) (es : sp.toNatClampNeg = sp1) (h5 : dp1 + k1 ≤ m) (hs : (∃ a, s0 = .ref a ∧ w.2 a = zai m0 f0) ∨ (∃ q, s0 = .retAddr q ∧ q < 4 ∧ (m0, f0) = zct S q)) (h4 : sp1 + k1 ≤ m0) (hw2 : zset w d (zai m (va_cpy f0 f sp1 dp1 k1)) = w2) (kk : Zw S C c g rt K Q (np, L, r, u, w2)) : Zw S C c g rt K Q (pc, L, .int k :: .int dp :: .ref d :: .int sp :: s0 :: r, u, w) := by
  subst e
  subst hw2
  subst ek
  subst ed
  subst es
  exact zs h (Or.inl ⟨hm, k, dp, d, sp, s0, r, m, f, rfl, hr, hw, h1, h2, h3, h5, m0, f0, hs, h4, rfl⟩) kk
theorem zr_callv (np : Nat) {idx j b : Nat} {q : zMI} {As : List Value} {Q0 : zQ} {fs : List Value} {u2 : Nat × Nat} {st0 : List Value} (h : zas K pc = some (.invokevirtual idx, 3)) (e : pc + 3 = np) (hl : zlk zmlT c idx = some j) (hq : zat zmt j = some q) (hk : q.2.1 = 0) (hst : st0 = As.reverse ++ .ref b :: r) (hn : As.length = q.2.2.2.1) (hr : zcat r ≤ 8) (h1 : q.2.2.2.2.2.1 ≤ u.1) (h2 : q.2.2.2.2.2.2.1 ≤ u.2) (hw : w.2 b = .inr (q.1, fs)) (hC : C j (.ref b :: As) w Q0) (hu : (u.1 - q.2.2.2.2.2.1, u.2 - q.2.2.2.2.2.2.1) = u2) (kk : ∀ v w2, Q0 v w2 → Zw S C c g rt K Q (np, L, v.toList ++ r, u2, w2)) : Zw S C c g rt K Q (pc, L, st0, u, w) := by
  subst e
  subst hst
  subst hu
  exact zs_call h ⟨j, q, As, r, Q0, hq, hn, hr, h1, h2, rfl, ⟨hl, hk, _, rfl, Or.inl ⟨b, fs, rfl, hw⟩, hC⟩, kk⟩
theorem zr_callt (np : Nat) {idx j k : Nat} {q : zMI} {As : List Value} {Q0 : zQ} {u2 : Nat × Nat} {st0 : List Value} (h : zas K pc = some (.invokevirtual idx, 3)) (e : pc + 3 = np) (hl : zlk zmlT c idx = some j) (hq : zat zmt j = some q) (hk : q.2.1 = 0) (hst : st0 = As.reverse ++ .retAddr (10 + k) :: r) (hn : As.length = q.2.2.2.1) (hr : zcat r ≤ 8) (h1 : q.2.2.2.2.2.1 ≤ u.1) (h2 : q.2.2.2.2.2.2.1 ≤ u.2) (hk2 : k < 13) (h10 : q.1 = 10) (hC : C j (.retAddr (10 + k) :: As) w Q0) (hu : (u.1 - q.2.2.2.2.2.1, u.2 - q.2.2.2.2.2.2.1) = u2) (kk : ∀ v w2, Q0 v w2 → Zw S C c g rt K Q (np, L, v.toList ++ r, u2, w2)) : Zw S C c g rt K Q (pc, L, st0, u, w) := by
  subst e
  subst hst
  subst hu
  exact zs_call h ⟨j, q, As, r, Q0, hq, hn, hr, h1, h2, rfl, ⟨hl, hk, _, rfl, Or.inr ⟨k, rfl, hk2, h10⟩, hC⟩, kk⟩
theorem zr_calli (np : Nat) {idx j b : Nat} {q : zMI} {As : List Value} {Q0 : zQ} {u2 : Nat × Nat} {st0 : List Value} (h : zas K pc = some (.invokespecial idx, 3)) (e : pc + 3 = np) (hl : zlk zmlT c idx = some j) (hq : zat zmt j = some q) (hk : q.2.1 = 1) (hst : st0 = As.reverse ++ .ref b :: r) (hn : As.length = q.2.2.2.1) (hr : zcat r ≤ 8) (h1 : q.2.2.2.2.2.1 ≤ u.1) (h2 : q.2.2.2.2.2.2.1 ≤ u.2) (hC : C j (.ref b :: As) w Q0) (hu : (u.1 - q.2.2.2.2.2.1, u.2 - q.2.2.2.2.2.2.1) = u2) (kk : ∀ v w2, Q0 v w2 → Zw S C c g rt K Q (np, L, v.toList ++ r, u2, w2)) : Zw S C c g rt K Q (pc, L, st0, u, w) := by
  subst e
  subst hst
  subst hu
  exact zs_call h ⟨j, q, As, r, Q0, hq, hn, hr, h1, h2, rfl, ⟨hl, hk, _, rfl, hC⟩, kk⟩
theorem zr_calls (np : Nat) {idx j : Nat} {q : zMI} {As : List Value} {Q0 : zQ} {u2 : Nat × Nat} {st0 : List Value} (h : zas K pc = some (.invokestatic idx, 3)) (e : pc + 3 = np) (hl : zlk zmlT c idx = some j) (hq : zat zmt j = some q) (hk : q.2.1 = 2) (hst : st0 = As.reverse ++ r) (hn : As.length = q.2.2.2.1) (hr : zcat r ≤ 8) (h1 : q.2.2.2.2.2.1 ≤ u.1) (h2 : q.2.2.2.2.2.2.1 ≤ u.2) (hC : C j As w Q0) (hu : (u.1 - q.2.2.2.2.2.1, u.2 - q.2.2.2.2.2.2.1) = u2) (kk : ∀ v w2, Q0 v w2 → Zw S C c g rt K Q (np, L, v.toList ++ r, u2, w2)) : Zw S C c g rt K Q (pc, L, st0, u, w) := by
  subst e
  subst hst
  subst hu
  exact zs_call h ⟨j, q, As, r, Q0, hq, hn, hr, h1, h2, rfl, ⟨hl, hk, rfl, hC⟩, kk⟩
theorem zr_ret (h : zas K pc = some (.return_, 1)) (hr : rt = 0) (hq : Q none w) : Zw S C c g rt K Q (pc, L, [], u, w) := zs_ret h ⟨hr, rfl, hq⟩
theorem zr_iret {x : Int32} (h : zas K pc = some (.ireturn, 1)) (hr : rt = 1) (hq : Q (some (.int x)) w) : Zw S C c g rt K Q (pc, L, [.int x], u, w) := zs_ret h ⟨x, rfl, Or.inl hr, hq⟩
theorem zr_zret {x : Int32} (h : zas K pc = some (.ireturn, 1)) (hr : rt = 3) (hx : x = 0 ∨ x = 1) (hq : Q (some (.int x)) w) : Zw S C c g rt K Q (pc, L, [.int x], u, w) := zs_ret h ⟨x, rfl, Or.inr (Or.inl ⟨hr, hx⟩), hq⟩
theorem zr_lret {x : Int64} (h : zas K pc = some (.lreturn, 1)) (hr : rt = 2) (hq : Q (some (.long x)) w) : Zw S C c g rt K Q (pc, L, [.long x], u, w) := zs_ret h ⟨x, rfl, hr, hq⟩
theorem Zc_in {S : Nat × (Nat → Int32)} {d j : Nat} {As : List Value} {w : zW} {Q : zQ} {q : zMI} (hq : zat zmt j = some q) (hl : (zen As).length ≤ q.2.2.2.2.1) {L : zL} (hL : zent q.2.2.2.2.1 As = L) (k : Zw S (Zc S d) q.1 (q.2.1 == 1) q.2.2.1 q.2.2.2.2.2.2.2 Q (0, L, [], (q.2.2.2.2.2.1, q.2.2.2.2.2.2.1), w)) : Zc S (d + 1) j As w Q := by
  subst hL
  exact ⟨q, hq, hl, k⟩
end ZROWS
