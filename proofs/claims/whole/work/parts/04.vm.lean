/-! the small machine: a world is how many cells there are and what each holds, by number; a reference is a cell's number, a constant (a static row, the script, a String) is told by retAddr and its number -/
abbrev zW : Type := Nat × (Nat → va_E)
abbrev zL : Type := List (Option Value)
abbrev zS : Type := Nat × zL × List Value × (Nat × Nat) × zW
/-- no long stands just ahead of this place -/
def zpv (L : zL) : Nat → Prop
  | 0 => True
  | k + 1 => match zat L k with
    | some (some v) => v.category = 1
    | _ => True
def zrf : Value → Prop
  | .ref _ => True
  | .null => True
  | .retAddr _ => True
  | _ => False
/-- fewer locals are known -/
def zsub : zL → zL → Prop
  | [], [] => True
  | none :: a, _ :: b => zsub a b
  | some v :: a, x :: b => x = some v ∧ zsub a b
  | _, _ => False
/-- a value may stand in a field of this sort -/
def zfit : Nat → Value → Prop
  | 0, .int _ => True
  | 1, .long _ => True
  | 2, .int x => x = 0 ∨ x = 1
  | 3, .ref _ => True
  | 3, .null => True
  | _, _ => False
def zset (w : zW) (a : Nat) (c : va_E) : zW := (w.1, va_up w.2 a c)
def zpush (w : zW) (c : va_E) : zW := (w.1 + 1, va_up w.2 w.1 c)
def zcat (r : List Value) : Nat := (r.map fun v => v.category).sum
abbrev zai (n : Nat) (f : Nat → Int32) : va_E := .inl (0, n, .inl f)
abbrev zal (n : Nat) (f : Nat → Int64) : va_E := .inl (1, n, .inr (.inl f))
abbrev zab (n : Nat) (f : Nat → Int32) : va_E := .inl (2, n, .inl f)
abbrev zaq (t n : Nat) (f : Nat → Option Nat) : va_E := .inl (t, n, .inr (.inr (.inr (.inr f))))
abbrev zob (ci : Nat) (fs : List Value) : va_E := .inr (ci, fs)
/-- one instruction that is no call and no return: S the script, c the class, g whether this is a constructor -/
def zR (S : Nat × (Nat → Int32)) (c : Nat) (g : Bool) (i : Instr) (n pc : Nat) (L : zL) (st : List Value) (u : Nat × Nat) (w : zW) (Y : zS) : Prop := match i with
  | .aconst_null => Y = (pc + n, L, .null :: st, u, w)
  | .iconst v => Y = (pc + n, L, .int (Int32.ofInt v) :: st, u, w)
  | .bipush v => Y = (pc + n, L, .int (Int8.ofInt v).toInt32 :: st, u, w)
  | .sipush v => Y = (pc + n, L, .int (Int16.ofInt v).toInt32 :: st, u, w)
  | .lconst v => Y = (pc + n, L, .long (Int64.ofNat (v : Nat)) :: st, u, w)
  | .ldc idx => (∃ v, zlk zilT c idx = some v ∧ Y = (pc + n, L, .int v :: st, u, w)) ∨ (∃ q, zlk ztlT c idx = some q ∧ Y = (pc + n, L, .retAddr (10 + q) :: st, u, w))
  | .ldc_w idx => ∃ v, zlk zilT c idx = some v ∧ Y = (pc + n, L, .int v :: st, u, w)
  | .ldc2_w idx => ∃ v, zlk zllT c idx = some v ∧ Y = (pc + n, L, .long v :: st, u, w)
  | .iload k => ∃ x, zat L k = some (some (.int x)) ∧ Y = (pc + n, L, .int x :: st, u, w)
  | .iload_n k => ∃ x, zat L k = some (some (.int x)) ∧ Y = (pc + n, L, .int x :: st, u, w)
  | .lload k => ∃ x, zat L k = some (some (.long x)) ∧ Y = (pc + n, L, .long x :: st, u, w)
  | .lload_n k => ∃ x, zat L k = some (some (.long x)) ∧ Y = (pc + n, L, .long x :: st, u, w)
  | .aload k => ∃ v, zat L k = some (some v) ∧ zrf v ∧ Y = (pc + n, L, v :: st, u, w)
  | .aload_n k => ∃ v, zat L k = some (some v) ∧ zrf v ∧ Y = (pc + n, L, v :: st, u, w)
  | .istore k => ∃ x r, st = .int x :: r ∧ k < L.length ∧ zpv L k ∧ Y = (pc + n, L.set k (some (.int x)), r, u, w)
  | .istore_n k => ∃ x r, st = .int x :: r ∧ (k : Nat) < L.length ∧ zpv L k ∧ Y = (pc + n, L.set k (some (.int x)), r, u, w)
  | .lstore k => ∃ x r, st = .long x :: r ∧ k + 1 < L.length ∧ zpv L k ∧ Y = (pc + n, (L.set k (some (.long x))).set (k + 1) none, r, u, w)
  | .lstore_n k => ∃ x r, st = .long x :: r ∧ (k : Nat) + 1 < L.length ∧ zpv L k ∧ Y = (pc + n, (L.set k (some (.long x))).set (k + 1) none, r, u, w)
  | .astore k => ∃ v r, st = v :: r ∧ zrf v ∧ k < L.length ∧ zpv L k ∧ Y = (pc + n, L.set k (some v), r, u, w)
  | .astore_n k => ∃ v r, st = v :: r ∧ zrf v ∧ (k : Nat) < L.length ∧ zpv L k ∧ Y = (pc + n, L.set k (some v), r, u, w)
  | .iinc k z => ∃ x, zat L k = some (some (.int x)) ∧ zpv L k ∧ Y = (pc + n, L.set k (some (.int (x + Int32.ofInt z))), st, u, w)
  | .iadd => ∃ x y r, st = .int y :: .int x :: r ∧ Y = (pc + n, L, .int (x + y) :: r, u, w)
  | .isub => ∃ x y r, st = .int y :: .int x :: r ∧ Y = (pc + n, L, .int (x - y) :: r, u, w)
  | .imul => ∃ x y r, st = .int y :: .int x :: r ∧ Y = (pc + n, L, .int (x * y) :: r, u, w)
  | .iand => ∃ x y r, st = .int y :: .int x :: r ∧ Y = (pc + n, L, .int (x &&& y) :: r, u, w)
  | .ior => ∃ x y r, st = .int y :: .int x :: r ∧ Y = (pc + n, L, .int (x ||| y) :: r, u, w)
  | .ixor => ∃ x y r, st = .int y :: .int x :: r ∧ Y = (pc + n, L, .int (x ^^^ y) :: r, u, w)
  | .idiv => ∃ x y r, st = .int y :: .int x :: r ∧ ¬ y = 0 ∧ Y = (pc + n, L, .int (x / y) :: r, u, w)
  | .irem => ∃ x y r, st = .int y :: .int x :: r ∧ ¬ y = 0 ∧ Y = (pc + n, L, .int (x - x / y * y) :: r, u, w)
  | .ishl => ∃ x y r, st = .int y :: .int x :: r ∧ Y = (pc + n, L, .int (x <<< (y &&& 31)) :: r, u, w)
  | .ishr => ∃ x y r, st = .int y :: .int x :: r ∧ Y = (pc + n, L, .int (x >>> (y &&& 31)) :: r, u, w)
  | .iushr => ∃ x y r, st = .int y :: .int x :: r ∧ Y = (pc + n, L, .int (x.toUInt32 >>> (y.toUInt32 &&& Int32.toUInt32 31)).toInt32 :: r, u, w)
  | .i2l => ∃ x r, st = .int x :: r ∧ Y = (pc + n, L, .long x.toInt64 :: r, u, w)
  | .l2i => ∃ x r, st = .long x :: r ∧ Y = (pc + n, L, .int x.toInt32 :: r, u, w)
  | .i2b => ∃ x r, st = .int x :: r ∧ Y = (pc + n, L, .int x.toInt8.toInt32 :: r, u, w)
  | .i2c => ∃ x r, st = .int x :: r ∧ Y = (pc + n, L, .int (x.toUInt32 % 65536).toInt32 :: r, u, w)
  | .i2s => ∃ x r, st = .int x :: r ∧ Y = (pc + n, L, .int x.toInt16.toInt32 :: r, u, w)
  | .ladd => ∃ x y r, st = .long y :: .long x :: r ∧ Y = (pc + n, L, .long (x + y) :: r, u, w)
  | .lsub => ∃ x y r, st = .long y :: .long x :: r ∧ Y = (pc + n, L, .long (x - y) :: r, u, w)
  | .lmul => ∃ x y r, st = .long y :: .long x :: r ∧ Y = (pc + n, L, .long (x * y) :: r, u, w)
  | .land => ∃ x y r, st = .long y :: .long x :: r ∧ Y = (pc + n, L, .long (x &&& y) :: r, u, w)
  | .lor => ∃ x y r, st = .long y :: .long x :: r ∧ Y = (pc + n, L, .long (x ||| y) :: r, u, w)
  | .lshl => ∃ x y r, st = .int y :: .long x :: r ∧ Y = (pc + n, L, .long (x <<< (y.toInt64 &&& 63)) :: r, u, w)
  | .lshr => ∃ x y r, st = .int y :: .long x :: r ∧ Y = (pc + n, L, .long (x >>> (y.toInt64 &&& 63)) :: r, u, w)
  | .lushr => ∃ x y r, st = .int y :: .long x :: r ∧ Y = (pc + n, L, .long (x.toUInt64 >>> (y.toInt64.toUInt64 &&& Int64.toUInt64 63)).toInt64 :: r, u, w)
  | .lcmp => ∃ x y r, st = .long y :: .long x :: r ∧ Y = (pc + n, L, .int (lg_cmp x y) :: r, u, w)
  | .dup => ∃ v r, st = v :: r ∧ v.category = 1 ∧ Y = (pc + n, L, v :: v :: r, u, w)
  | .pop => ∃ v r, st = v :: r ∧ v.category = 1 ∧ Y = (pc + n, L, r, u, w)
  | .dup2 => ∃ v v2 r, st = v :: v2 :: r ∧ v.category = 1 ∧ v2.category = 1 ∧ Y = (pc + n, L, v :: v2 :: v :: v2 :: r, u, w)
  | .goto off => ∃ t : Nat, (pc : Int) + off = (t : Int) ∧ Y = (t, L, st, u, w)
  | .ifCond cd off => ∃ (t : Nat) (x : Int32) (r : List Value), (pc : Int) + off = (t : Int) ∧ st = .int x :: r ∧
      (match cd with
        | .eq => (x = 0 ∧ Y = (t, L, r, u, w)) ∨ (¬ x = 0 ∧ Y = (pc + n, L, r, u, w))
        | .ne => (¬ x = 0 ∧ Y = (t, L, r, u, w)) ∨ (x = 0 ∧ Y = (pc + n, L, r, u, w))
        | .lt => (x < 0 ∧ Y = (t, L, r, u, w)) ∨ (¬ x < 0 ∧ Y = (pc + n, L, r, u, w))
        | .ge => (0 ≤ x ∧ Y = (t, L, r, u, w)) ∨ (¬ 0 ≤ x ∧ Y = (pc + n, L, r, u, w))
        | .gt => (0 < x ∧ Y = (t, L, r, u, w)) ∨ (¬ 0 < x ∧ Y = (pc + n, L, r, u, w))
        | .le => (x ≤ 0 ∧ Y = (t, L, r, u, w)) ∨ (¬ x ≤ 0 ∧ Y = (pc + n, L, r, u, w)))
  | .if_icmp cd off => ∃ (t : Nat) (x y : Int32) (r : List Value), (pc : Int) + off = (t : Int) ∧ st = .int y :: .int x :: r ∧
      (match cd with
        | .eq => (x = y ∧ Y = (t, L, r, u, w)) ∨ (¬ x = y ∧ Y = (pc + n, L, r, u, w))
        | .ne => (¬ x = y ∧ Y = (t, L, r, u, w)) ∨ (x = y ∧ Y = (pc + n, L, r, u, w))
        | .lt => (x < y ∧ Y = (t, L, r, u, w)) ∨ (¬ x < y ∧ Y = (pc + n, L, r, u, w))
        | .ge => (y ≤ x ∧ Y = (t, L, r, u, w)) ∨ (¬ y ≤ x ∧ Y = (pc + n, L, r, u, w))
        | .gt => (y < x ∧ Y = (t, L, r, u, w)) ∨ (¬ y < x ∧ Y = (pc + n, L, r, u, w))
        | .le => (x ≤ y ∧ Y = (t, L, r, u, w)) ∨ (¬ x ≤ y ∧ Y = (pc + n, L, r, u, w)))
  | .ifnull off => ∃ (t : Nat) (v : Value) (r : List Value), (pc : Int) + off = (t : Int) ∧ st = v :: r ∧ ((v = .null ∧ Y = (t, L, r, u, w)) ∨ ((∃ a, v = .ref a) ∧ Y = (pc + n, L, r, u, w)))
  | .ifnonnull off => ∃ (t : Nat) (v : Value) (r : List Value), (pc : Int) + off = (t : Int) ∧ st = v :: r ∧ (((∃ a, v = .ref a) ∧ Y = (t, L, r, u, w)) ∨ (v = .null ∧ Y = (pc + n, L, r, u, w)))
  | .tableswitch df lo hi offs => ∃ (t : Nat) (x : Int32) (r : List Value), st = .int x :: r ∧ (((x.toInt < lo ∨ hi < x.toInt) ∧ (pc : Int) + df = (t : Int)) ∨ (¬ x.toInt < lo ∧ ¬ hi < x.toInt ∧ ∃ off, offs[(x.toInt - lo).toNat]? = some off ∧ (pc : Int) + off = (t : Int))) ∧ Y = (t, L, r, u, w)
  | .lookupswitch df ps => ∃ (t : Nat) (x : Int32) (r : List Value), st = .int x :: r ∧ (ps.toList.zip (ps.toList.drop 1)).all (fun (a, next) => a.1 < next.1) = true ∧ (pc : Int) + Op.lookupswitch.offset ps.toList df x.toInt = (t : Int) ∧ Y = (t, L, r, u, w)
  | .getfield idx => (∃ a r ci k fs v, st = .ref a :: r ∧ zlk zflT c idx = some (ci, k) ∧ w.2 a = .inr (ci, fs) ∧ zat fs k = some v ∧ Y = (pc + n, L, v :: r, u, w)) ∨ (∃ q r, st = .retAddr (10 + q) :: r ∧ q < 13 ∧ c = 10 ∧ ((idx = 9 ∧ Y = (pc + n, L, .retAddr (30 + q) :: r, u, w)) ∨ (idx = 15 ∧ Y = (pc + n, L, .int 0 :: r, u, w))))
  | .putfield idx => ∃ v a r ci k fs q, st = v :: .ref a :: r ∧ zlk zflT c idx = some (ci, k) ∧ w.2 a = .inr (ci, fs) ∧ k < fs.length ∧ zlk2 ci k = some q ∧ zfit q.1 v ∧ (q.2 = true → g = true ∧ ci = c) ∧ Y = (pc + n, L, r, u, zset w a (.inr (ci, fs.set k v)))
  | .getstatic idx => (∃ q, zlk zslT c idx = some q ∧ Y = (pc + n, L, .retAddr q :: st, u, w)) ∨ (c = 10 ∧ idx = 38 ∧ Y = (pc + n, L, .int 1 :: st, u, w)) ∨ (c = 10 ∧ idx = 1053 ∧ Y = (pc + n, L, .retAddr 60 :: st, u, w))
  | .iaload => (∃ x a r m f, st = .int x :: .ref a :: r ∧ w.2 a = zai m f ∧ vp_in x m ∧ Y = (pc + n, L, .int (f x.toNatClampNeg) :: r, u, w)) ∨ (∃ x q r, st = .int x :: .retAddr q :: r ∧ q < 5 ∧ vp_in x (zct S q).1 ∧ Y = (pc + n, L, .int ((zct S q).2 x.toNatClampNeg) :: r, u, w))
  | .baload => (∃ x a r m f, st = .int x :: .ref a :: r ∧ w.2 a = zab m f ∧ vp_in x m ∧ Y = (pc + n, L, .int (f x.toNatClampNeg) :: r, u, w)) ∨ (∃ x q r bs, st = .int x :: .retAddr (30 + q) :: r ∧ zat zstrs q = some bs ∧ vp_in x bs.length ∧ Y = (pc + n, L, .int (bs.getD x.toNatClampNeg 0) :: r, u, w))
  | .laload => ∃ x a r m f, st = .int x :: .ref a :: r ∧ w.2 a = zal m f ∧ vp_in x m ∧ Y = (pc + n, L, .long (f x.toNatClampNeg) :: r, u, w)
  | .aaload => ∃ x a r t m f, st = .int x :: .ref a :: r ∧ w.2 a = zaq t m f ∧ (t = 3 ∨ t = 4) ∧ vp_in x m ∧ Y = (pc + n, L, va_rf (f x.toNatClampNeg) :: r, u, w)
  | .iastore => ∃ v x a r m f, st = .int v :: .int x :: .ref a :: r ∧ w.2 a = zai m f ∧ vp_in x m ∧ Y = (pc + n, L, r, u, zset w a (zai m (upd f x.toNatClampNeg v)))
  | .bastore => ∃ v x a r m f, st = .int v :: .int x :: .ref a :: r ∧ w.2 a = zab m f ∧ vp_in x m ∧ Y = (pc + n, L, r, u, zset w a (zab m (upd f x.toNatClampNeg (vp_nar .byte v))))
  | .lastore => ∃ v x a r m f, st = .long v :: .int x :: .ref a :: r ∧ w.2 a = zal m f ∧ vp_in x m ∧ Y = (pc + n, L, r, u, zset w a (zal m (vp_updL f x.toNatClampNeg v)))
  | .aastore => ∃ v x a r t m f, st = va_rf v :: .int x :: .ref a :: r ∧ w.2 a = zaq t m f ∧ vp_in x m ∧ (t = 3 ∨ t = 4) ∧ (∀ b, v = some b → ∃ fs, w.2 b = .inr (t - 2, fs)) ∧ Y = (pc + n, L, r, u, zset w a (zaq t m (va_up f x.toNatClampNeg v)))
  | .arraylength => (∃ a r t x, st = .ref a :: r ∧ w.2 a = .inl (t, x) ∧ t < 5 ∧ Y = (pc + n, L, .int (Int32.ofNat x.1) :: r, u, w)) ∨ (∃ q r, st = .retAddr q :: r ∧ q < 5 ∧ Y = (pc + n, L, .int (Int32.ofNat (zct S q).1) :: r, u, w)) ∨ (∃ q r bs, st = .retAddr (30 + q) :: r ∧ zat zstrs q = some bs ∧ Y = (pc + n, L, .int (Int32.ofNat bs.length) :: r, u, w))
  | .new idx => ∃ ci fs, zlk zclT c idx = some ci ∧ zat zdfT ci = some fs ∧ 1 ≤ u.1 ∧ fs.length ≤ u.2 ∧ Y = (pc + n, L, .ref w.1 :: st, (u.1 - 1, u.2 - fs.length), zpush w (.inr (ci, fs)))
  | .newarray ty => ∃ x r, st = .int x :: r ∧ ¬ x < 0 ∧ x.toNatClampNeg ≤ 1000 ∧ 1 ≤ u.1 ∧ x.toNatClampNeg ≤ u.2 ∧
      (match ty with
        | .int => Y = (pc + n, L, .ref w.1 :: r, (u.1 - 1, u.2 - x.toNatClampNeg), zpush w (zai x.toNatClampNeg (fun _ => 0)))
        | .long => Y = (pc + n, L, .ref w.1 :: r, (u.1 - 1, u.2 - x.toNatClampNeg), zpush w (zal x.toNatClampNeg (fun _ => 0)))
        | .byte => Y = (pc + n, L, .ref w.1 :: r, (u.1 - 1, u.2 - x.toNatClampNeg), zpush w (zab x.toNatClampNeg (fun _ => 0)))
        | _ => False)
  | .anewarray idx => ∃ x r t, st = .int x :: r ∧ zlk zalT c idx = some t ∧ ¬ x < 0 ∧ x.toNatClampNeg ≤ 1000 ∧ 1 ≤ u.1 ∧ x.toNatClampNeg ≤ u.2 ∧ Y = (pc + n, L, .ref w.1 :: r, (u.1 - 1, u.2 - x.toNatClampNeg), zpush w (zaq t x.toNatClampNeg (fun _ => none)))
  | .invokespecial idx => ∃ a r, zlk zmlT c idx = some 1000 ∧ st = .ref a :: r ∧ zcat r ≤ 8 ∧ Y = (pc + n, L, r, u, w)
  | .invokestatic idx => (zlk zmlT c idx = some 1001 ∧ ∃ k dp d sp s0 r m f, st = .int k :: .int dp :: .ref d :: .int sp :: s0 :: r ∧ zcat r ≤ 8 ∧ w.2 d = zai m f ∧ ¬ sp < 0 ∧ ¬ dp < 0 ∧ ¬ k < 0 ∧ dp.toNatClampNeg + k.toNatClampNeg ≤ m ∧
      ∃ m0 f0, ((∃ a, s0 = .ref a ∧ w.2 a = zai m0 f0) ∨ (∃ q, s0 = .retAddr q ∧ q < 4 ∧ (m0, f0) = zct S q)) ∧ sp.toNatClampNeg + k.toNatClampNeg ≤ m0 ∧ Y = (pc + n, L, r, u, zset w d (zai m (va_cpy f0 f sp.toNatClampNeg dp.toNatClampNeg k.toNatClampNeg)))) ∨
      (zlk zmlT c idx = some 1004 ∧ ∃ x y r, st = .int y :: .int x :: r ∧ zcat r ≤ 8 ∧ Y = (pc + n, L, .int (if x < y then y else x) :: r, u, w)) ∨
      (zlk zmlT c idx = some 1005 ∧ ∃ x y r, st = .int y :: .int x :: r ∧ zcat r ≤ 8 ∧ Y = (pc + n, L, .int (if y < x then y else x) :: r, u, w))
  | _ => False
where zlk2 (ci k : Nat) : Option (Nat × Bool) := match zat zfsT ci with
  | some l => zat l k
  | none => none
