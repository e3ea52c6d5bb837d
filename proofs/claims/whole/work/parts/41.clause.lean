abbrev zS0 : List Int32 := [119, 111, 114, 107, 101, 114]
abbrev zS1 : List Int32 := [108, 97, 116, 101]
abbrev zS2 : List Int32 := [104, 97, 108, 118, 101, 114]
abbrev zS3 : List Int32 := [119, 97, 105, 116, 101, 114]
abbrev zS4 : List Int32 := [115, 116, 101, 97, 100, 121]
abbrev zS5 : List Int32 := [98, 117, 115, 121]
abbrev zS6 : List Int32 := [119, 111, 114, 107]
abbrev zS7 : List Int32 := [105, 108, 108]
abbrev zS8 : List Int32 := [100, 117, 101]
abbrev zS9 : List Int32 := [109, 111, 115, 116]
abbrev zS10 : List Int32 := [112, 101, 110, 97, 108, 116, 121]
abbrev zS11 : List Int32 := [100, 97, 116, 101]
abbrev zS12 : List Int32 := [112, 97, 114, 116]
def zkindF (tb : Nat → Int32) (t : zTk) : Int32 := if zisN tb t zS0 then 0 else if zisN tb t zS1 then 1 else if zisN tb t zS2 then 2 else if zisN tb t zS3 then 3 else if zisN tb t zS4 then 4 else if zisN tb t zS5 then 5 else -1
abbrev zRd : Type := Nat ⊕ (zCs × zTk)
def zendF (tb : Nat → Int32) (L : Nat) (K : zCs) (t : zTk) : zRd := if zisS tb t 59 then .inr (K, zNx tb L t) else .inl t.1
def zllo (l : Nat) : Int32 := [1, 1, 0, 0, 0].getD l 0
def zlhi (l : Nat) : Int32 := [50, 12, 30, 10, 30].getD l 0
def zrlawF (tb : Nat → Int32) (L : Nat) (K : zCs) (l : Nat) (t : zTk) : zRd := if znok tb (zNx tb L t) (zllo l) (zlhi l) then zendF tb L (K.slaw l (znum tb (zNx tb L t))) (zNx tb L (zNx tb L t)) else .inl (zNx tb L t).1
def zleast (K : zCs) : Int32 := if 0 < K.D then K.dd (K.D - 1) + 1 else 0
def zrdate3 (tb : Nat → Int32) (L : Nat) (K : zCs) (day : Int32) (t : zTk) : zRd := if znok tb t 1 99 then zendF tb L (K.addD day (znum tb t)) (zNx tb L t) else .inl t.1
def zrdate2 (tb : Nat → Int32) (L : Nat) (K : zCs) (day : Int32) (t : zTk) : zRd := if zisN tb t zS12 then zrdate3 tb L K day (zNx tb L t) else .inl t.1
def zrdate1 (tb : Nat → Int32) (L : Nat) (K : zCs) (t : zTk) : zRd := if znok tb t (zleast K) 49 then zrdate2 tb L K (znum tb t) (zNx tb L t) else .inl t.1
def zrdateF (tb : Nat → Int32) (L : Nat) (K : zCs) (t : zTk) : zRd := if K.D < 3 then zrdate1 tb L K (zNx tb L t) else .inl t.1
def zillb (tb : Nat → Int32) (K : zCs) (i : Nat) (t : zTk) : zCs := K.sp i 4 (K.p i 4 ||| (1 : Int32) <<< (znum tb t &&& 31))
def zillL (tb : Nat → Int32) (L : Nat) (i : Nat) : Nat → zCs → zTk → zRd
  | 0, _, _ => .inl 0
  | n + 1, K, t => if znok tb (zNx tb L t) 0 29 then (if zisS tb (zNx tb L (zNx tb L t)) 44 then zillL tb L i n (zillb tb K i (zNx tb L t)) (zNx tb L (zNx tb L t)) else zendF tb L (zillb tb K i (zNx tb L t)) (zNx tb L (zNx tb L t))) else .inl (zNx tb L t).1
def zrper4 (tb : Nat → Int32) (L : Nat) (K : zCs) (i : Nat) (t : zTk) : zRd := if zisN tb t zS7 then zillL tb L i 201 K t else zendF tb L K t
def zrper3 (tb : Nat → Int32) (L : Nat) (K : zCs) (kd a : Int32) (t : zTk) : zRd := if znok tb t 1 99 then zrper4 tb L (K.addP kd a (znum tb t)) K.M (zNx tb L t) else .inl t.1
def zrper2 (tb : Nat → Int32) (L : Nat) (K : zCs) (kd a : Int32) (t : zTk) : zRd := if zisN tb t zS6 then zrper3 tb L K kd a (zNx tb L t) else .inl t.1
def zrper1 (tb : Nat → Int32) (L : Nat) (K : zCs) (kd : Int32) (t : zTk) : zRd := if znok tb t 0 9 then zrper2 tb L K kd (znum tb t) (zNx tb L t) else .inl t.1
def zrperF (tb : Nat → Int32) (L : Nat) (K : zCs) (kd : Int32) (t : zTk) : zRd := if K.M < 6 then zrper1 tb L K kd (zNx tb L t) else .inl t.1
def zstmt (tb : Nat → Int32) (L : Nat) (K : zCs) (t : zTk) : zRd := if 0 ≤ zkindF tb t then zrperF tb L K (zkindF tb t) t else if zisN tb t zS8 then zrlawF tb L K 0 t else if zisN tb t zS9 then zrlawF tb L K 1 t else if zisN tb t zS10 then zrlawF tb L K 2 t else if zisN tb t zS11 then zrdateF tb L K t else .inl t.1
def zprs (tb : Nat → Int32) (L : Nat) : Nat → zCs → zTk → Nat ⊕ zCs
  | 0, _, _ => .inl 0
  | n + 1, K, t => if t.2.2 = 0 then .inr K else match zstmt tb L K t with
    | .inl f => .inl f
    | .inr q => zprs tb L n q.1 q.2
abbrev zRes0 (ξ ξ2 : Nat → Nat → Int32) (L : Nat) : Prop := (∀ b, (b < 23 ∨ 35 ≤ b) → ξ2 b = ξ b) ∧ ξ2 34 1 = nI L ∧ ∃ D, D ≤ 3 ∧ ξ2 23 4 = nI D
def zRes (ξ ξ2 : Nat → Nat → Int32) (tb : Nat → Int32) (L : Nat) (x : zRd) : Prop := zRes0 ξ ξ2 L ∧ match x with
  | .inl f => ξ2 34 7 = nI f
  | .inr q => ξ2 34 7 = -1 ∧ zXP ξ2 tb L q.2 ∧ zXR ξ2 23 q.1 ∧ q.1.D ≤ 3 ∧ q.1.M ≤ 6
/-- told as far as t: nothing is at fault -/
abbrev zXQ (ξ ξ1 : Nat → Nat → Int32) (tb : Nat → Int32) (L : Nat) (K : zCs) (t : zTk) : Prop := (∀ b, (b < 23 ∨ 35 ≤ b) → ξ1 b = ξ b) ∧ ξ1 34 7 = -1 ∧ zXP ξ1 tb L t ∧ zXR ξ1 23 K ∧ K.D ≤ 3 ∧ K.M ≤ 6
theorem zXQ.up {ξ ξ1 ξ2 : Nat → Nat → Int32} {tb : Nat → Int32} {L : Nat} {K : zCs} {t t2 : zTk} (h : zXQ ξ ξ1 tb L K t) (x : zXP ξ2 tb L t2) (e7 : ξ2 34 7 = ξ1 34 7) (f : ∀ b, b ≠ 34 → ξ2 b = ξ1 b) : zXQ ξ ξ2 tb L K t2 :=
  ⟨fun b hb => by rw [f b (by omega), h.1 b hb], e7.trans h.2.1, x, h.2.2.2.1.fr h.2.2.2.2.2 (fun a _ _ => f a (by omega)), h.2.2.2.2⟩
theorem zXQ.ok {ξ ξ1 : Nat → Nat → Int32} {tb : Nat → Int32} {L : Nat} {K : zCs} {t : zTk} (h : zXQ ξ ξ1 tb L K t) : zRes ξ ξ1 tb L (.inr (K, t)) := ⟨⟨h.1, h.2.2.1.1, K.D, h.2.2.2.2.1, h.2.2.2.1.hd⟩, h.2.1, h.2.2.1, h.2.2.2.1, h.2.2.2.2⟩
theorem zXQ.no {ξ ξ1 ξ2 : Nat → Nat → Int32} {tb : Nat → Int32} {L f : Nat} {K : zCs} {t : zTk} (h : zXQ ξ ξ1 tb L K t) (e7 : ξ2 34 7 = nI f) (e1 : ξ2 34 1 = nI L) (fb : ∀ b, b ≠ 34 → ξ2 b = ξ1 b) : zRes ξ ξ2 tb L (.inl f) :=
  ⟨⟨fun b hb => by rw [fb b (by omega), h.1 b hb], e1, K.D, h.2.2.2.2.1, by rw [fb 23 (by decide)]; exact h.2.2.2.1.hd⟩, e7⟩
set_option maxRecDepth 20000 in
set_option maxHeartbeats 1000000 in
theorem c_kindHere {S : Nat × (Nat → Int32)} {d n : Nat} {ξ : Nat → Nat → Int32} {ρ : zRho} {tb : Nat → Int32} {L : Nat} {t : zTk} (h : zXP ξ tb L t) : Zc S (d + 6) jX3_kindHere [.ref 34] (zWof n ξ ρ) (fun r w => r = some (.int (zkindF tb t)) ∧ w = zWof n ξ ρ) := by
  refine Zc_in (q := (3, 0, 1, 0, 1, 0, 0, zk_X3_kindHere)) rfl (Nat.le_of_ble_eq_true rfl) (L := [_]) rfl ?_
  refine zr_aload_n 1 rfl rfl rfl trivial ?_
  refine zr_ldcs 3 rfl rfl rfl ?_
  refine zr_callv 6 (As := [_]) (u2 := (0, 0)) rfl rfl rfl rfl rfl rfl rfl (Nat.le_of_ble_eq_true rfl) (Nat.le_of_ble_eq_true rfl) (Nat.le_of_ble_eq_true rfl) rfl (c_isName (bs := zS0) h rfl) rfl (fun v2 w2 h3z => ?_)
  obtain ⟨rfl, rfl⟩ := h3z
  refine zr_if_eq 11 9 rfl rfl (by decide) (fun c6z => ?_) (fun c6z => ?_)
  · replace c6z := zb_0.mp c6z
    refine zr_aload_n 12 rfl rfl rfl trivial ?_
    refine zr_ldcs 14 rfl rfl rfl ?_
    refine zr_callv 17 (As := [_]) (u2 := (0, 0)) rfl rfl rfl rfl rfl rfl rfl (Nat.le_of_ble_eq_true rfl) (Nat.le_of_ble_eq_true rfl) (Nat.le_of_ble_eq_true rfl) rfl (c_isName (bs := zS1) h rfl) rfl (fun v2 w2 h14z => ?_)
    obtain ⟨rfl, rfl⟩ := h14z
    refine zr_if_eq 22 20 rfl rfl (by decide) (fun c17z => ?_) (fun c17z => ?_)
    · replace c17z := zb_0.mp c17z
      refine zr_aload_n 23 rfl rfl rfl trivial ?_
      refine zr_ldcs 25 rfl rfl rfl ?_
      refine zr_callv 28 (As := [_]) (u2 := (0, 0)) rfl rfl rfl rfl rfl rfl rfl (Nat.le_of_ble_eq_true rfl) (Nat.le_of_ble_eq_true rfl) (Nat.le_of_ble_eq_true rfl) rfl (c_isName (bs := zS2) h rfl) rfl (fun v2 w2 h25z => ?_)
      obtain ⟨rfl, rfl⟩ := h25z
      refine zr_if_eq 33 31 rfl rfl (by decide) (fun c28z => ?_) (fun c28z => ?_)
      · replace c28z := zb_0.mp c28z
        refine zr_aload_n 34 rfl rfl rfl trivial ?_
        refine zr_ldcs 36 rfl rfl rfl ?_
        refine zr_callv 39 (As := [_]) (u2 := (0, 0)) rfl rfl rfl rfl rfl rfl rfl (Nat.le_of_ble_eq_true rfl) (Nat.le_of_ble_eq_true rfl) (Nat.le_of_ble_eq_true rfl) rfl (c_isName (bs := zS3) h rfl) rfl (fun v2 w2 h36z => ?_)
        obtain ⟨rfl, rfl⟩ := h36z
        refine zr_if_eq 44 42 rfl rfl (by decide) (fun c39z => ?_) (fun c39z => ?_)
        · replace c39z := zb_0.mp c39z
          refine zr_aload_n 45 rfl rfl rfl trivial ?_
          refine zr_ldcs 47 rfl rfl rfl ?_
          refine zr_callv 50 (As := [_]) (u2 := (0, 0)) rfl rfl rfl rfl rfl rfl rfl (Nat.le_of_ble_eq_true rfl) (Nat.le_of_ble_eq_true rfl) (Nat.le_of_ble_eq_true rfl) rfl (c_isName (bs := zS4) h rfl) rfl (fun v2 w2 h47z => ?_)
          obtain ⟨rfl, rfl⟩ := h47z
          refine zr_if_eq 55 53 rfl rfl (by decide) (fun c50z => ?_) (fun c50z => ?_)
          · replace c50z := zb_0.mp c50z
            refine zr_aload_n 56 rfl rfl rfl trivial ?_
            refine zr_ldcs 58 rfl rfl rfl ?_
            refine zr_callv 61 (As := [_]) (u2 := (0, 0)) rfl rfl rfl rfl rfl rfl rfl (Nat.le_of_ble_eq_true rfl) (Nat.le_of_ble_eq_true rfl) (Nat.le_of_ble_eq_true rfl) rfl (c_isName (bs := zS5) h rfl) rfl (fun v2 w2 h58z => ?_)
            obtain ⟨rfl, rfl⟩ := h58z
            refine zr_if_eq 68 64 rfl rfl (by decide) (fun c61z => ?_) (fun c61z => ?_)
            · replace c61z := zb_0.mp c61z
              refine zr_iconst 69 (x := (-1)) rfl rfl (by decide) ?_
              refine zr_iret rfl rfl ?_
              refine ⟨?_, rfl⟩
              unfold zkindF
              rw [if_neg c6z, if_neg c17z, if_neg c28z, if_neg c39z, if_neg c50z, if_neg c61z]
            · replace c61z := zb_n0.mp c61z
              refine zr_iconst 65 (x := 5) rfl rfl (by decide) ?_
              refine zr_goto 69 rfl (by decide) ?_
              refine zr_iret rfl rfl ?_
              refine ⟨?_, rfl⟩
              unfold zkindF
              rw [if_neg c6z, if_neg c17z, if_neg c28z, if_neg c39z, if_neg c50z, if_pos c61z]
          · replace c50z := zb_n0.mp c50z
            refine zr_iconst 54 (x := 4) rfl rfl (by decide) ?_
            refine zr_iret rfl rfl ?_
            refine ⟨?_, rfl⟩
            unfold zkindF
            rw [if_neg c6z, if_neg c17z, if_neg c28z, if_neg c39z, if_pos c50z]
        · replace c39z := zb_n0.mp c39z
          refine zr_iconst 43 (x := 3) rfl rfl (by decide) ?_
          refine zr_iret rfl rfl ?_
          refine ⟨?_, rfl⟩
          unfold zkindF
          rw [if_neg c6z, if_neg c17z, if_neg c28z, if_pos c39z]
      · replace c28z := zb_n0.mp c28z
        refine zr_iconst 32 (x := 2) rfl rfl (by decide) ?_
        refine zr_iret rfl rfl ?_
        refine ⟨?_, rfl⟩
        unfold zkindF
        rw [if_neg c6z, if_neg c17z, if_pos c28z]
    · replace c17z := zb_n0.mp c17z
      refine zr_iconst 21 (x := 1) rfl rfl (by decide) ?_
      refine zr_iret rfl rfl ?_
      refine ⟨?_, rfl⟩
      unfold zkindF
      rw [if_neg c6z, if_pos c17z]
  · replace c6z := zb_n0.mp c6z
    refine zr_iconst 10 (x := 0) rfl rfl (by decide) ?_
    refine zr_iret rfl rfl ?_
    refine ⟨?_, rfl⟩
    unfold zkindF
    rw [if_pos c6z]
theorem zendR {ξ ξ1 ξ2 : Nat → Nat → Int32} {tb : Nat → Int32} {L : Nat} {K : zCs} {t : zTk} (g : zXQ ξ ξ1 tb L K t) (o : zisS tb t 59 → zXP ξ2 tb L (zNx tb L t) ∧ ξ2 34 7 = ξ1 34 7) (e : ¬ zisS tb t 59 → ξ2 34 7 = nI t.1 ∧ ξ2 34 1 = nI L) (f : ∀ b, b ≠ 34 → ξ2 b = ξ1 b) : zRes ξ ξ2 tb L (zendF tb L K t) := by
  unfold zendF
  by_cases q : zisS tb t 59
  · rw [if_pos q]
    exact (g.up (o q).1 (o q).2 f).ok
  · rw [if_neg q]
    exact g.no (e q).1 (e q).2 f
theorem zXQ.slaw {ξ ξ1 : Nat → Nat → Int32} {tb : Nat → Int32} {L : Nat} {K : zCs} {t : zTk} (h : zXQ ξ ξ1 tb L K t) (l : Nat) (v : Int32) : zXQ ξ (zu ξ1 24 l v) tb L (K.slaw l v) t :=
  ⟨fun b hb => by rw [zun (by omega), h.1 b hb], h.2.1, h.2.2.1, h.2.2.2.1.slaw l v, h.2.2.2.2⟩
theorem zXQ.crs {ξ ξ1 ξ2 : Nat → Nat → Int32} {tb : Nat → Int32} {L : Nat} {K K2 : zCs} {t : zTk} (h : zXQ ξ ξ1 tb L K t) (x : zXR ξ2 23 K2) (f : zfrA 23 ξ1 ξ2) (h3 : K2.D ≤ 3) (h6 : K2.M ≤ 6) : zXQ ξ ξ2 tb L K2 t :=
  ⟨fun b hb => by rw [f b (by omega), h.1 b hb], by rw [f 34 (by omega)]; exact h.2.1, by
    have q := h.2.2.1
    exact ⟨by rw [f 34 (by omega)]; exact q.1, by rw [f 35 (by omega)]; exact q.2.1, by rw [f 34 (by omega)]; exact q.2.2.1, by rw [f 34 (by omega)]; exact q.2.2.2.1, by rw [f 34 (by omega)]; exact q.2.2.2.2.1, q.2.2.2.2.2⟩, x, h3, h6⟩
set_option maxRecDepth 20000 in
set_option maxHeartbeats 1000000 in
theorem c_readLaw {S : Nat × (Nat → Int32)} {d n : Nat} {ξ : Nat → Nat → Int32} {ρ : zRho} {ξ0 : Nat → Nat → Int32} {tb : Nat → Int32} {L : Nat} {t : zTk} {K : zCs} (g : zXQ ξ0 ξ tb L K t) {l : Nat} (hl : l < 3) : Zc S (d + 4) jX3_readLaw [.ref 34, .int (nI l)] (zWof n ξ (zρ1 ρ (.ref 23))) (fun r w => r = none ∧ ∃ ξ2, w = zWof n ξ2 (zρ1 ρ (.ref 23)) ∧ zRes ξ0 ξ2 tb L (zrlawF tb L K l t)) := by
  have h := g.2.2.1
  have hd3 := g.2.2.2.2.1
  have hm6 := g.2.2.2.2.2
  refine Zc_in (q := (3, 0, 0, 1, 2, 0, 0, zk_X3_readLaw)) rfl (Nat.le_of_ble_eq_true rfl) (L := [_, _]) rfl ?_
  refine zr_aload_n 1 rfl rfl rfl trivial ?_
  refine zr_callv 4 (As := []) (u2 := (0, 0)) rfl rfl rfl rfl rfl rfl rfl (Nat.le_of_ble_eq_true rfl) (Nat.le_of_ble_eq_true rfl) (Nat.le_of_ble_eq_true rfl) rfl (c_step g.2.2.1.1 g.2.2.1.2.1 g.2.2.1.2.2.2.1 g.2.2.1.2.2.2.2.2.1 g.2.2.1.2.2.2.2.2.2.2.1) rfl (fun v2 w2 h1z => ?_)
  obtain ⟨rfl, ξ1z, rfl, x1z, n1z, t1z, f1z⟩ := h1z
  have g1z := g.up x1z t1z f1z
  refine zr_aload_n 5 rfl rfl rfl trivial ?_
  refine zr_gets 8 rfl rfl rfl ?_
  refine zr_iload_n 9 rfl rfl rfl ?_
  refine zr_ialc 10 rfl rfl (by decide) (nI_clamp (by omega)) (show vp_in (nI l) 5 from vp_in_nI (by omega) (by omega)) ?_
  refine zr_gets 13 rfl rfl rfl ?_
  refine zr_iload_n 14 rfl rfl rfl ?_
  refine zr_ialc 15 rfl rfl (by decide) (nI_clamp (by omega)) (show vp_in (nI l) 5 from vp_in_nI (by omega) (by omega)) ?_
  refine zr_callv 18 (As := [_, _]) (u2 := (0, 0)) rfl rfl rfl rfl rfl rfl rfl (Nat.le_of_ble_eq_true rfl) (Nat.le_of_ble_eq_true rfl) (Nat.le_of_ble_eq_true rfl) rfl (c_takeNumber (lo := zllo l) (hi := zlhi l) g1z.2.2.1) rfl (fun v2 w2 h15z => ?_)
  obtain ⟨ξ15z, rfl, rfl, o15z, e15z, f15z⟩ := h15z
  refine zr_if_eq 41 21 rfl rfl (by decide) (fun c18z => ?_) (fun c18z => ?_)
  · replace c18z := zb_0.mp c18z
    rw [show zrlawF tb L K l t = _ from if_neg c18z]
    refine zr_ret rfl rfl ?_
    exact ⟨rfl, ξ15z, rfl, g1z.no (e15z c18z).1 (e15z c18z).2 f15z⟩
  · replace c18z := zb_n0.mp c18z
    obtain ⟨x15, m15, t15⟩ := o15z c18z
    have g15 := g1z.up x15 t15 f15z
    rw [show zrlawF tb L K l t = _ from if_pos c18z]
    refine zr_aload_n 22 rfl rfl rfl trivial ?_
    refine zr_getf 25 rfl rfl rfl rfl rfl ?_
    refine zr_getf 28 rfl rfl rfl rfl rfl ?_
    refine zr_iload_n 29 rfl rfl rfl ?_
    refine zr_aload_n 30 rfl rfl rfl trivial ?_
    refine zr_getf 33 rfl rfl rfl rfl rfl ?_
    rw [m15]
    refine zr_iast 34 rfl rfl rfl (nI_clamp (by omega)) (vp_in_nI (by omega) (by omega)) (zW_set rfl) ?_
    have g33 := g15.slaw l (znum tb (zNx tb L t))
    refine zr_aload_n 35 rfl rfl rfl trivial ?_
    refine zr_bipush 37 (x := 59) rfl rfl (by decide) ?_
    refine zr_callv 40 (As := [_]) (u2 := (0, 0)) rfl rfl rfl rfl rfl rfl rfl (Nat.le_of_ble_eq_true rfl) (Nat.le_of_ble_eq_true rfl) (Nat.le_of_ble_eq_true rfl) rfl (c_takeSign g33.2.2.1 _) rfl (fun v2 w2 h37z => ?_)
    obtain ⟨ξ37z, rfl, rfl, o37z, e37z, f37z⟩ := h37z
    refine zr_pop 41 rfl rfl rfl ?_
    refine zr_ret rfl rfl ?_
    refine ⟨rfl, ξ37z, rfl, ?_⟩
    exact zendR g33 o37z e37z f37z
set_option maxRecDepth 20000 in
set_option maxHeartbeats 1000000 in
theorem c_readDate {S : Nat × (Nat → Int32)} {d n : Nat} {ξ : Nat → Nat → Int32} {ρ : zRho} {ξ0 : Nat → Nat → Int32} {tb : Nat → Int32} {L : Nat} {t : zTk} {K : zCs} (g : zXQ ξ0 ξ tb L K t) : Zc S (d + 7) jX3_readDate [.ref 34] (zWof n ξ (zρ1 ρ (.ref 23))) (fun r w => r = none ∧ ∃ ξ2, w = zWof n ξ2 (zρ1 ρ (.ref 23)) ∧ zRes ξ0 ξ2 tb L (zrdateF tb L K t)) := by
  have h := g.2.2.1
  have hd3 := g.2.2.2.2.1
  have hm6 := g.2.2.2.2.2
  refine Zc_in (q := (3, 0, 0, 0, 3, 0, 0, zk_X3_readDate)) rfl (Nat.le_of_ble_eq_true rfl) (L := [_, _, _]) rfl ?_
  have key54 : ∀ (ξ1 : Nat → Nat → Int32) (l : Int32), K.D < 3 → l = zleast K → zXQ ξ0 ξ1 tb L K (zNx tb L t) →  Zw S (Zc S (d + 6)) 3 false 0 zk_X3_readDate (fun r w => r = none ∧ ∃ ξ2, w = zWof n ξ2 (zρ1 ρ (.ref 23)) ∧ zRes ξ0 ξ2 tb L (zrdate1 tb L K (zNx tb L t))) (54, [some (.ref 34), none, none], [.int l], (0, 0), zWof n ξ1 (zρ1 ρ (.ref 23))) := by
    intro ξ1 l hD3 el g1
    subst el
    refine zr_istore_n 55 (L2 := [_, _, _]) rfl rfl (Nat.le_of_ble_eq_true rfl) (by first | exact trivial | exact rfl) rfl ?_
    refine zr_aload_n 56 rfl rfl rfl trivial ?_
    refine zr_iload_n 57 rfl rfl rfl ?_
    refine zr_bipush 59 (x := 49) rfl rfl (by decide) ?_
    refine zr_callv 62 (As := [_, _]) (u2 := (0, 0)) rfl rfl rfl rfl rfl rfl rfl (Nat.le_of_ble_eq_true rfl) (Nat.le_of_ble_eq_true rfl) (Nat.le_of_ble_eq_true rfl) rfl (c_takeNumber g1.2.2.1 _ _) rfl (fun v2 w2 h59z => ?_)
    obtain ⟨ξ59z, rfl, rfl, o59z, e59z, f59z⟩ := h59z
    refine zr_if_ne 66 65 rfl rfl (by decide) (fun c62z => ?_) (fun c62z => ?_)
    · replace c62z := zb_n0.mp c62z
      obtain ⟨x59, m59, t59⟩ := o59z c62z
      have g59 := g1.up x59 t59 f59z
      rw [show zrdate1 tb L K (zNx tb L t) = _ from if_pos c62z]
      refine zr_aload_n 67 rfl rfl rfl trivial ?_
      refine zr_getf 70 rfl rfl rfl rfl rfl ?_
      rw [m59]
      refine zr_istore_n 71 (L2 := [_, _, _]) rfl rfl (Nat.le_of_ble_eq_true rfl) (by first | exact trivial | exact rfl) rfl ?_
      refine zr_aload_n 72 rfl rfl rfl trivial ?_
      refine zr_ldcs 74 rfl rfl rfl ?_
      refine zr_callv 77 (As := [_]) (u2 := (0, 0)) rfl rfl rfl rfl rfl rfl rfl (Nat.le_of_ble_eq_true rfl) (Nat.le_of_ble_eq_true rfl) (Nat.le_of_ble_eq_true rfl) rfl (c_takeName (bs := zS12) g59.2.2.1 rfl) rfl (fun v2 w2 h74z => ?_)
      obtain ⟨ξ74z, rfl, rfl, o74z, e74z, f74z⟩ := h74z
      refine zr_if_eq 109 80 rfl rfl (by decide) (fun c77z => ?_) (fun c77z => ?_)
      · replace c77z := zb_0.mp c77z
        rw [show zrdate2 tb L K _ (zNx tb L (zNx tb L t)) = _ from if_neg c77z]
        refine zr_ret rfl rfl ?_
        exact ⟨rfl, ξ74z, rfl, g59.no (e74z c77z).1 (e74z c77z).2 f74z⟩
      · replace c77z := zb_n0.mp c77z
        obtain ⟨x74, t74⟩ := o74z c77z
        have g74 := g59.up x74 t74 f74z
        rw [show zrdate2 tb L K _ (zNx tb L (zNx tb L t)) = _ from if_pos c77z]
        refine zr_aload_n 81 rfl rfl rfl trivial ?_
        refine zr_iconst 82 (x := 1) rfl rfl (by decide) ?_
        refine zr_bipush 84 (x := 99) rfl rfl (by decide) ?_
        refine zr_callv 87 (As := [_, _]) (u2 := (0, 0)) rfl rfl rfl rfl rfl rfl rfl (Nat.le_of_ble_eq_true rfl) (Nat.le_of_ble_eq_true rfl) (Nat.le_of_ble_eq_true rfl) rfl (c_takeNumber g74.2.2.1 _ _) rfl (fun v2 w2 h84z => ?_)
        obtain ⟨ξ84z, rfl, rfl, o84z, e84z, f84z⟩ := h84z
        refine zr_if_eq 109 90 rfl rfl (by decide) (fun c87z => ?_) (fun c87z => ?_)
        · replace c87z := zb_0.mp c87z
          rw [show zrdate3 tb L K _ (zNx tb L (zNx tb L (zNx tb L t))) = _ from if_neg c87z]
          refine zr_ret rfl rfl ?_
          exact ⟨rfl, ξ84z, rfl, g74.no (e84z c87z).1 (e84z c87z).2 f84z⟩
        · replace c87z := zb_n0.mp c87z
          obtain ⟨x84, m84, t84⟩ := o84z c87z
          have g84 := g74.up x84 t84 f84z
          rw [show zrdate3 tb L K _ (zNx tb L (zNx tb L (zNx tb L t))) = _ from if_pos c87z]
          refine zr_aload_n 91 rfl rfl rfl trivial ?_
          refine zr_getf 94 rfl rfl rfl rfl rfl ?_
          refine zr_iload_n 95 rfl rfl rfl ?_
          refine zr_aload_n 96 rfl rfl rfl trivial ?_
          refine zr_getf 99 rfl rfl rfl rfl rfl ?_
          rw [m84]
          refine zr_callv 102 (As := [_, _]) (u2 := (0, 0)) rfl rfl rfl rfl rfl rfl rfl (Nat.le_of_ble_eq_true rfl) (Nat.le_of_ble_eq_true rfl) (Nat.le_of_ble_eq_true rfl) rfl (k_addDate zc23 g84.2.2.2.1 hD3 hm6 _ _) rfl (fun v2 w2 h99z => ?_)
          obtain ⟨rfl, ξ99z, rfl, x99z, f99z⟩ := h99z
          have g99 := g84.crs x99z f99z (show K.D + 1 ≤ 3 by omega) hm6
          refine zr_aload_n 103 rfl rfl rfl trivial ?_
          refine zr_bipush 105 (x := 59) rfl rfl (by decide) ?_
          refine zr_callv 108 (As := [_]) (u2 := (0, 0)) rfl rfl rfl rfl rfl rfl rfl (Nat.le_of_ble_eq_true rfl) (Nat.le_of_ble_eq_true rfl) (Nat.le_of_ble_eq_true rfl) rfl (c_takeSign g99.2.2.1 _) rfl (fun v2 w2 h105z => ?_)
          obtain ⟨ξ105z, rfl, rfl, o105z, e105z, f105z⟩ := h105z
          refine zr_pop 109 rfl rfl rfl ?_
          refine zr_ret rfl rfl ?_
          refine ⟨rfl, ξ105z, rfl, ?_⟩
          exact zendR g99 o105z e105z f105z
    · replace c62z := zb_0.mp c62z
      rw [show zrdate1 tb L K (zNx tb L t) = _ from if_neg c62z]
      refine zr_ret rfl rfl ?_
      exact ⟨rfl, ξ59z, rfl, g1.no (e59z c62z).1 (e59z c62z).2 f59z⟩
  refine zr_aload_n 1 rfl rfl rfl trivial ?_
  refine zr_getf 4 rfl rfl rfl rfl rfl ?_
  refine zr_getf 7 rfl rfl rfl rfl rfl ?_
  refine zr_iconst 8 (x := 3) rfl rfl (by decide) ?_
  refine zr_icmp_lt 17 11 rfl rfl (by decide) (fun c8z => ?_) (fun c8z => ?_)
  · rw [g.2.2.2.1.hd, show (3 : Int32) = nI 3 from rfl, nI_ltI (by omega) (by omega)] at c8z
    rw [show zrdateF tb L K t = _ from if_pos c8z]
    refine zr_aload_n 18 rfl rfl rfl trivial ?_
    refine zr_callv 21 (As := []) (u2 := (0, 0)) rfl rfl rfl rfl rfl rfl rfl (Nat.le_of_ble_eq_true rfl) (Nat.le_of_ble_eq_true rfl) (Nat.le_of_ble_eq_true rfl) rfl (c_step g.2.2.1.1 g.2.2.1.2.1 g.2.2.1.2.2.2.1 g.2.2.1.2.2.2.2.2.1 g.2.2.1.2.2.2.2.2.2.2.1) rfl (fun v2 w2 h18z => ?_)
    obtain ⟨rfl, ξ18z, rfl, x18z, n18z, t18z, f18z⟩ := h18z
    have g18z := g.up x18z t18z f18z
    refine zr_aload_n 22 rfl rfl rfl trivial ?_
    refine zr_getf 25 rfl rfl rfl rfl rfl ?_
    refine zr_getf 28 rfl rfl rfl rfl rfl ?_
    refine zr_if_le 53 31 rfl rfl (by decide) (fun c28z => ?_) (fun c28z => ?_)
    · rw [g18z.2.2.2.1.hd] at c28z
      have hD : K.D = 0 := Nat.eq_zero_of_not_pos (fun q => nI_nle q (by omega) c28z)
      refine zr_iconst 54 (x := 0) rfl rfl (by decide) ?_
      exact key54 ξ18z _ c8z (by unfold zleast; rw [if_neg (by omega)]) g18z
    · rw [g18z.2.2.2.1.hd] at c28z
      have hD : 0 < K.D := Nat.pos_of_ne_zero (fun q => c28z (by rw [q]; decide))
      obtain ⟨D2, hD2⟩ : ∃ z, K.D = z + 1 := ⟨K.D - 1, by omega⟩
      refine zr_aload_n 32 rfl rfl rfl trivial ?_
      refine zr_getf 35 rfl rfl rfl rfl rfl ?_
      refine zr_getf 38 rfl rfl rfl rfl rfl ?_
      refine zr_aload_n 39 rfl rfl rfl trivial ?_
      refine zr_getf 42 rfl rfl rfl rfl rfl ?_
      refine zr_getf 45 rfl rfl rfl rfl rfl ?_
      refine zr_iconst 46 (x := 1) rfl rfl (by decide) ?_
      refine zr_isub 47 rfl rfl ?_
      rw [g18z.2.2.2.1.hd, hD2, nI_pred]
      refine zr_iald 48 rfl rfl rfl (nI_clamp (by omega)) (vp_in_nI (by omega) (by omega)) ?_
      refine zr_iconst 49 (x := 1) rfl rfl (by decide) ?_
      refine zr_iadd 50 rfl rfl ?_
      refine zr_goto 54 rfl (by decide) ?_
      refine key54 ξ18z _ c8z ?_ g18z
      unfold zleast
      rw [if_pos hD, hD2, Nat.add_sub_cancel]
      rw [show ξ18z 25 D2 = K.dd D2 from g18z.2.2.2.1.hdd D2 (by omega)]
  · rw [g.2.2.2.1.hd, show (3 : Int32) = nI 3 from rfl, nI_ltI (by omega) (by omega)] at c8z
    rw [show zrdateF tb L K t = _ from if_neg c8z]
    refine zr_aload_n 12 rfl rfl rfl trivial ?_
    refine zr_callv 15 (As := []) (u2 := (0, 0)) rfl rfl rfl rfl rfl rfl rfl (Nat.le_of_ble_eq_true rfl) (Nat.le_of_ble_eq_true rfl) (Nat.le_of_ble_eq_true rfl) rfl (c_fail h.2.2.1) rfl (fun v2 w2 h12z => ?_)
    obtain ⟨rfl, rfl⟩ := h12z
    refine zr_pop 16 rfl rfl rfl ?_
    refine zr_ret rfl rfl ?_
    exact ⟨rfl, _, rfl, g.no (zu_same _ _ _ _) (by rw [zu_ne (Or.inr (by decide))]; exact h.1) (fun b hb => zun hb)⟩
theorem zXQ.ill {ξ ξ1 : Nat → Nat → Int32} {tb : Nat → Int32} {L : Nat} {K : zCs} {t : zTk} (h : zXQ ξ ξ1 tb L K t) {i : Nat} (hi : i < K.M) (v : Int32) : zXQ ξ (zu ξ1 (23 + 5 + i) 4 v) tb L (K.sp i 4 v) t :=
  h.crs (h.2.2.2.1.sp v) (fun b hb => zun (by have := h.2.2.2.2.2; omega)) h.2.2.2.2.1 h.2.2.2.2.2
set_option maxRecDepth 20000 in
set_option maxHeartbeats 1000000 in
theorem c_readPerson {S : Nat × (Nat → Int32)} {d n : Nat} {ξ : Nat → Nat → Int32} {ρ : zRho} {ξ0 : Nat → Nat → Int32} {tb : Nat → Int32} {L : Nat} {t : zTk} {K : zCs} (g : zXQ ξ0 ξ tb L K t) (kd : Int32) : Zc S (d + 7) jX3_readPerson [.ref 34, .int kd] (zWof n ξ (zρ1 ρ (.ref 23))) (fun r w => r = none ∧ ∃ ξ2, w = zWof n ξ2 (zρ1 ρ (.ref 23)) ∧ zRes ξ0 ξ2 tb L (zrperF tb L K kd t)) := by
  have h := g.2.2.1
  have hd3 := g.2.2.2.2.1
  have hm6 := g.2.2.2.2.2
  refine Zc_in (q := (3, 0, 0, 1, 6, 0, 0, zk_X3_readPerson)) rfl (Nat.le_of_ble_eq_true rfl) (L := [_, _, _, _, _, _]) rfl ?_
  have key149 : ∀ (ξ1 : Nat → Nat → Int32) (K1 : zCs) (tt : zTk) (a : Int32) (i : Nat) (e : Int32), zXQ ξ0 ξ1 tb L K1 tt →  Zw S (Zc S (d + 6)) 3 false 0 zk_X3_readPerson (fun r w => r = none ∧ ∃ ξ2, w = zWof n ξ2 (zρ1 ρ (.ref 23)) ∧ zRes ξ0 ξ2 tb L (zendF tb L K1 tt)) (149, [some (.ref 34), some (.int kd), some (.int a), some (.ref (23 + 5 + i)), some (.int e), none], [], (0, 0), zWof n ξ1 (zρ1 ρ (.ref 23))) := by
    intro ξ1 K1 tt a i e g1
    refine zr_aload_n 150 rfl rfl rfl trivial ?_
    refine zr_bipush 152 (x := 59) rfl rfl (by decide) ?_
    refine zr_callv 155 (As := [_]) (u2 := (0, 0)) rfl rfl rfl rfl rfl rfl rfl (Nat.le_of_ble_eq_true rfl) (Nat.le_of_ble_eq_true rfl) (Nat.le_of_ble_eq_true rfl) rfl (c_takeSign g1.2.2.1 _) rfl (fun v2 w2 h152z => ?_)
    obtain ⟨ξ152z, rfl, rfl, o152z, e152z, f152z⟩ := h152z
    refine zr_pop 156 rfl rfl rfl ?_
    refine zr_ret rfl rfl ?_
    exact ⟨rfl, ξ152z, rfl, zendR g1 o152z e152z f152z⟩
  have key91 : ∀ (k : Nat) (ξ1 : Nat → Nat → Int32) (K1 : zCs) (tt : zTk) (a : Int32) (i : Nat) (j : Nat) (m : Nat) (F : zRd), L - tt.1 = k → zXQ ξ0 ξ1 tb L K1 tt → i < K1.M → j ≤ tt.1 → ¬ tt.2.2 = 0 → L - tt.1 < m → zillL tb L i m K1 tt = F →  Zw S (Zc S (d + 6)) 3 false 0 zk_X3_readPerson (fun r w => r = none ∧ ∃ ξ2, w = zWof n ξ2 (zρ1 ρ (.ref 23)) ∧ zRes ξ0 ξ2 tb L (F)) (91, [some (.ref 34), some (.int kd), some (.int a), some (.ref (23 + 5 + i)), some (.int 1), some (.int (nI j))], [], (0, 0), zWof n ξ1 (zρ1 ρ (.ref 23))) := by
    intro k
    induction k using Nat.strongRecOn with
    | ind k ih =>
      intro ξ1 K1 tt a i j m F hk g1 hi hj hs hm eF
      have hTw := g1.2.2.1.2.2.2.2.2.2
      have hlt := hTw.lt hs
      have hL := g1.2.2.1.2.2.2.2.2.1
      obtain ⟨m2, rfl⟩ : ∃ z, m = z + 1 := ⟨m - 1, by omega⟩
      rw [zillL] at eF
      refine zr_iload 93 rfl rfl rfl ?_
      refine zr_aload_n 94 rfl rfl rfl trivial ?_
      refine zr_getf 97 rfl rfl rfl rfl rfl ?_
      refine zr_icmp_gt 149 100 rfl rfl (by decide) (fun c97z => ?_) (fun c97z => ?_)
      · rw [g1.2.2.1.1, nI_ltI (by omega) (by omega)] at c97z
        exact absurd c97z (by omega)
      · refine zr_iload 102 rfl rfl rfl ?_
        refine zr_if_eq 149 105 rfl rfl (by decide) (fun c102z => ?_) (fun c102z => ?_)
        · exact absurd c102z (by decide)
        · refine zr_aload_n 106 rfl rfl rfl trivial ?_
          refine zr_callv 109 (As := []) (u2 := (0, 0)) rfl rfl rfl rfl rfl rfl rfl (Nat.le_of_ble_eq_true rfl) (Nat.le_of_ble_eq_true rfl) (Nat.le_of_ble_eq_true rfl) rfl (c_step g1.2.2.1.1 g1.2.2.1.2.1 g1.2.2.1.2.2.2.1 g1.2.2.1.2.2.2.2.2.1 g1.2.2.1.2.2.2.2.2.2.2.1) rfl (fun v2 w2 h106z => ?_)
          obtain ⟨rfl, ξ106z, rfl, x106z, n106z, t106z, f106z⟩ := h106z
          have g106z := g1.up x106z t106z f106z
          refine zr_aload_n 110 rfl rfl rfl trivial ?_
          refine zr_iconst 111 (x := 0) rfl rfl (by decide) ?_
          refine zr_bipush 113 (x := 29) rfl rfl (by decide) ?_
          refine zr_callv 116 (As := [_, _]) (u2 := (0, 0)) rfl rfl rfl rfl rfl rfl rfl (Nat.le_of_ble_eq_true rfl) (Nat.le_of_ble_eq_true rfl) (Nat.le_of_ble_eq_true rfl) rfl (c_takeNumber g106z.2.2.1 _ _) rfl (fun v2 w2 h113z => ?_)
          obtain ⟨ξ113z, rfl, rfl, o113z, e113z, f113z⟩ := h113z
          refine zr_if_ne 120 119 rfl rfl (by decide) (fun c116z => ?_) (fun c116z => ?_)
          · replace c116z := zb_n0.mp c116z
            obtain ⟨x113, m113, t113⟩ := o113z c116z
            have g113 := g106z.up x113 t113 f113z
            rw [if_pos c116z] at eF
            refine zr_aload_n 121 rfl rfl rfl trivial ?_
            refine zr_dup 122 rfl rfl rfl ?_
            refine zr_getf 125 rfl rfl rfl (zc_pe (zP zc23 (by have := g1.2.2.2.2.2; omega))) rfl ?_
            refine zr_iconst 126 (x := 1) rfl rfl (by decide) ?_
            refine zr_aload_n 127 rfl rfl rfl trivial ?_
            refine zr_getf 130 rfl rfl rfl rfl rfl ?_
            refine zr_ishl 131 rfl rfl ?_
            refine zr_ior 132 rfl rfl ?_
            rw [m113, g113.2.2.2.1.hp i hi 4 (by decide)]
            refine zr_putf 135 rfl rfl rfl (zc_pe (zP zc23 (by have := g1.2.2.2.2.2; omega))) (Nat.le_of_ble_eq_true rfl) rfl trivial (fun h => by cases h) (zs_pe (zP zc23 (by have := g1.2.2.2.2.2; omega)) 4 (by decide) _) ?_
            have gi := g113.ill hi (K1.p i 4 ||| (1 : Int32) <<< (znum tb (zNx tb L tt) &&& 31))
            refine zr_aload_n 136 rfl rfl rfl trivial ?_
            refine zr_bipush 138 (x := 44) rfl rfl (by decide) ?_
            refine zr_callv 141 (As := [_]) (u2 := (0, 0)) rfl rfl rfl rfl rfl rfl rfl (Nat.le_of_ble_eq_true rfl) (Nat.le_of_ble_eq_true rfl) (Nat.le_of_ble_eq_true rfl) rfl (c_isSign gi.2.2.1 _) rfl (fun v2 w2 h138z => ?_)
            obtain ⟨rfl, rfl⟩ := h138z
            refine zr_istore 143 (L2 := [_, _, _, _, _, _]) rfl rfl (Nat.le_of_ble_eq_true rfl) (by first | exact trivial | exact rfl) rfl ?_
            refine zr_iinc 146 (c0 := 1) (L2 := [_, _, _, _, _, _]) rfl rfl rfl (by first | exact trivial | exact rfl) (by decide) rfl ?_
            refine zr_goto 91 rfl (by decide) ?_
            by_cases q : zisS tb (zNx tb L (zNx tb L tt)) 44
            · rw [zb_t q, nI_1]
              rw [if_pos q] at eF
              have a1 := zNx_st hTw
              have a2 := zNx_st hTw.nx
              have a3 := hTw.nx.1
              have a4 : tt.1 + 1 ≤ (zNx tb L (zNx tb L tt)).1 := by omega
              have a5 : tt.1 + 1 ≤ (zNx tb L (ztok tb L tt.2.1)).1 := a4
              exact ih _ (by omega) _ _ _ a i (j + 1) m2 F rfl gi hi (by omega) (by rw [q.1]; decide) (by omega) eF
            · rw [zb_f q, nI_1]
              rw [if_neg q] at eF
              subst eF
              refine zr_iload 93 rfl rfl rfl ?_
              refine zr_aload_n 94 rfl rfl rfl trivial ?_
              refine zr_getf 97 rfl rfl rfl rfl rfl ?_
              refine zr_icmp_gt 149 100 rfl rfl (by decide) (fun _ => ?_) (fun _ => ?_)
              · refine zs_forget (L' := [_, _, _, _, _, none]) (zsub_s (zsub_s (zsub_s (zsub_s (zsub_s (zsub_n zsub_0)))))) ?_
                exact key149 _ _ _ a i 0 gi
              · refine zr_iload 102 rfl rfl rfl ?_
                refine zr_if_eq 149 105 rfl rfl (by decide) (fun _ => ?_) (fun z => absurd rfl z)
                refine zs_forget (L' := [_, _, _, _, _, none]) (zsub_s (zsub_s (zsub_s (zsub_s (zsub_s (zsub_n zsub_0)))))) ?_
                exact key149 _ _ _ a i 0 gi
          · replace c116z := zb_0.mp c116z
            rw [if_neg c116z] at eF
            refine zr_ret rfl rfl ?_
            exact ⟨rfl, ξ113z, rfl, by rw [← eF]; exact g106z.no (e113z c116z).1 (e113z c116z).2 f113z⟩
  refine zr_aload_n 1 rfl rfl rfl trivial ?_
  refine zr_getf 4 rfl rfl rfl rfl rfl ?_
  refine zr_getf 7 rfl rfl rfl rfl rfl ?_
  refine zr_bipush 9 (x := 6) rfl rfl (by decide) ?_
  refine zr_icmp_lt 18 12 rfl rfl (by decide) (fun c9z => ?_) (fun c9z => ?_)
  · rw [g.2.2.2.1.hm, show (6 : Int32) = nI 6 from rfl, nI_ltI (by omega) (by omega)] at c9z
    rw [show zrperF tb L K kd t = _ from if_pos c9z]
    refine zr_aload_n 19 rfl rfl rfl trivial ?_
    refine zr_callv 22 (As := []) (u2 := (0, 0)) rfl rfl rfl rfl rfl rfl rfl (Nat.le_of_ble_eq_true rfl) (Nat.le_of_ble_eq_true rfl) (Nat.le_of_ble_eq_true rfl) rfl (c_step g.2.2.1.1 g.2.2.1.2.1 g.2.2.1.2.2.2.1 g.2.2.1.2.2.2.2.2.1 g.2.2.1.2.2.2.2.2.2.2.1) rfl (fun v2 w2 h19z => ?_)
    obtain ⟨rfl, ξ19z, rfl, x19z, n19z, t19z, f19z⟩ := h19z
    have g19z := g.up x19z t19z f19z
    refine zr_aload_n 23 rfl rfl rfl trivial ?_
    refine zr_iconst 24 (x := 0) rfl rfl (by decide) ?_
    refine zr_bipush 26 (x := 9) rfl rfl (by decide) ?_
    refine zr_callv 29 (As := [_, _]) (u2 := (0, 0)) rfl rfl rfl rfl rfl rfl rfl (Nat.le_of_ble_eq_true rfl) (Nat.le_of_ble_eq_true rfl) (Nat.le_of_ble_eq_true rfl) rfl (c_takeNumber g19z.2.2.1 _ _) rfl (fun v2 w2 h26z => ?_)
    obtain ⟨ξ26z, rfl, rfl, o26z, e26z, f26z⟩ := h26z
    refine zr_if_ne 33 32 rfl rfl (by decide) (fun c29z => ?_) (fun c29z => ?_)
    · replace c29z := zb_n0.mp c29z
      obtain ⟨x26, m26, t26⟩ := o26z c29z
      have g26 := g19z.up x26 t26 f26z
      rw [show zrper1 tb L K kd (zNx tb L t) = _ from if_pos c29z]
      refine zr_aload_n 34 rfl rfl rfl trivial ?_
      refine zr_getf 37 rfl rfl rfl rfl rfl ?_
      rw [m26]
      refine zr_istore_n 38 (L2 := [_, _, _, _, _, _]) rfl rfl (Nat.le_of_ble_eq_true rfl) (by first | exact trivial | exact rfl) rfl ?_
      refine zr_aload_n 39 rfl rfl rfl trivial ?_
      refine zr_ldcs 41 rfl rfl rfl ?_
      refine zr_callv 44 (As := [_]) (u2 := (0, 0)) rfl rfl rfl rfl rfl rfl rfl (Nat.le_of_ble_eq_true rfl) (Nat.le_of_ble_eq_true rfl) (Nat.le_of_ble_eq_true rfl) rfl (c_takeName (bs := zS6) g26.2.2.1 rfl) rfl (fun v2 w2 h41z => ?_)
      obtain ⟨ξ41z, rfl, rfl, o41z, e41z, f41z⟩ := h41z
      refine zr_if_eq 57 47 rfl rfl (by decide) (fun c44z => ?_) (fun c44z => ?_)
      · replace c44z := zb_0.mp c44z
        rw [show zrper2 tb L K kd _ (zNx tb L (zNx tb L t)) = _ from if_neg c44z]
        refine zr_ret rfl rfl ?_
        exact ⟨rfl, ξ41z, rfl, g26.no (e41z c44z).1 (e41z c44z).2 f41z⟩
      · replace c44z := zb_n0.mp c44z
        obtain ⟨x41, t41⟩ := o41z c44z
        have g41 := g26.up x41 t41 f41z
        rw [show zrper2 tb L K kd _ (zNx tb L (zNx tb L t)) = _ from if_pos c44z]
        refine zr_aload_n 48 rfl rfl rfl trivial ?_
        refine zr_iconst 49 (x := 1) rfl rfl (by decide) ?_
        refine zr_bipush 51 (x := 99) rfl rfl (by decide) ?_
        refine zr_callv 54 (As := [_, _]) (u2 := (0, 0)) rfl rfl rfl rfl rfl rfl rfl (Nat.le_of_ble_eq_true rfl) (Nat.le_of_ble_eq_true rfl) (Nat.le_of_ble_eq_true rfl) rfl (c_takeNumber g41.2.2.1 _ _) rfl (fun v2 w2 h51z => ?_)
        obtain ⟨ξ51z, rfl, rfl, o51z, e51z, f51z⟩ := h51z
        refine zr_if_ne 58 57 rfl rfl (by decide) (fun c54z => ?_) (fun c54z => ?_)
        · replace c54z := zb_n0.mp c54z
          obtain ⟨x51, m51, t51⟩ := o51z c54z
          have g51 := g41.up x51 t51 f51z
          rw [show zrper3 tb L K kd _ (zNx tb L (zNx tb L (zNx tb L t))) = _ from if_pos c54z]
          refine zr_aload_n 59 rfl rfl rfl trivial ?_
          refine zr_getf 62 rfl rfl rfl rfl rfl ?_
          refine zr_getf 65 rfl rfl rfl rfl rfl ?_
          refine zr_aload_n 66 rfl rfl rfl trivial ?_
          refine zr_getf 69 rfl rfl rfl rfl rfl ?_
          refine zr_iload_n 70 rfl rfl rfl ?_
          refine zr_iload_n 71 rfl rfl rfl ?_
          refine zr_aload_n 72 rfl rfl rfl trivial ?_
          refine zr_getf 75 rfl rfl rfl rfl rfl ?_
          rw [m51]
          refine zr_callv 78 (As := [_, _, _]) (u2 := (0, 0)) rfl rfl rfl rfl rfl rfl rfl (Nat.le_of_ble_eq_true rfl) (Nat.le_of_ble_eq_true rfl) (Nat.le_of_ble_eq_true rfl) rfl (k_addPerson zc23 g51.2.2.2.1 c9z _ _ _) rfl (fun v2 w2 h75z => ?_)
          obtain ⟨rfl, ξ75z, rfl, x75z, f75z⟩ := h75z
          have g75 := g51.crs x75z f75z hd3 (show K.M + 1 ≤ 6 by omega)
          refine zr_aald 79 rfl rfl rfl (by decide) (nI_clamp (by omega)) (vp_in_nI (by omega) (by omega)) (zrf_ps (by omega)) ?_
          refine zr_astore_n 80 (L2 := [_, _, _, _, _, _]) rfl rfl trivial (Nat.le_of_ble_eq_true rfl) (by first | exact trivial | exact rfl) rfl ?_
          refine zr_aload_n 81 rfl rfl rfl trivial ?_
          refine zr_ldcs 83 rfl rfl rfl ?_
          refine zr_callv 86 (As := [_]) (u2 := (0, 0)) rfl rfl rfl rfl rfl rfl rfl (Nat.le_of_ble_eq_true rfl) (Nat.le_of_ble_eq_true rfl) (Nat.le_of_ble_eq_true rfl) rfl (c_isName (bs := zS7) g75.2.2.1 rfl) rfl (fun v2 w2 h83z => ?_)
          obtain ⟨rfl, rfl⟩ := h83z
          refine zr_istore 88 (L2 := [_, _, _, _, _, _]) rfl rfl (Nat.le_of_ble_eq_true rfl) (by first | exact trivial | exact rfl) rfl ?_
          refine zr_iconst 89 (x := 0) rfl rfl (by decide) ?_
          refine zr_istore 91 (L2 := [_, _, _, _, _, _]) rfl rfl (Nat.le_of_ble_eq_true rfl) (by first | exact trivial | exact rfl) rfl ?_
          by_cases q : zisN tb (zNx tb L (zNx tb L (zNx tb L (zNx tb L t)))) zS7
          · rw [zb_t q]
            have hL := g.2.2.1.2.2.2.2.2.1
            exact key91 _ _ _ _ _ K.M 0 201 _ rfl g75 (show K.M < K.M + 1 by omega) (Nat.zero_le _) (by rw [q.1]; decide) (by omega) (by unfold zrper4; rw [if_pos q])
          · rw [zb_f q]
            rw [show zrper4 tb L _ _ _ = _ from if_neg q]
            refine zr_iload 93 rfl rfl rfl ?_
            refine zr_aload_n 94 rfl rfl rfl trivial ?_
            refine zr_getf 97 rfl rfl rfl rfl rfl ?_
            refine zr_icmp_gt 149 100 rfl rfl (by decide) (fun _ => ?_) (fun _ => ?_)
            · refine zs_forget (L' := [_, _, _, _, _, none]) (zsub_s (zsub_s (zsub_s (zsub_s (zsub_s (zsub_n zsub_0)))))) ?_
              exact key149 _ _ _ _ K.M 0 g75
            · refine zr_iload 102 rfl rfl rfl ?_
              refine zr_if_eq 149 105 rfl rfl (by decide) (fun _ => ?_) (fun z => absurd rfl z)
              refine zs_forget (L' := [_, _, _, _, _, none]) (zsub_s (zsub_s (zsub_s (zsub_s (zsub_s (zsub_n zsub_0)))))) ?_
              exact key149 _ _ _ _ K.M 0 g75
        · replace c54z := zb_0.mp c54z
          rw [show zrper3 tb L K kd _ (zNx tb L (zNx tb L (zNx tb L t))) = _ from if_neg c54z]
          refine zr_ret rfl rfl ?_
          exact ⟨rfl, ξ51z, rfl, g41.no (e51z c54z).1 (e51z c54z).2 f51z⟩
    · replace c29z := zb_0.mp c29z
      rw [show zrper1 tb L K kd (zNx tb L t) = _ from if_neg c29z]
      refine zr_ret rfl rfl ?_
      exact ⟨rfl, ξ26z, rfl, g19z.no (e26z c29z).1 (e26z c29z).2 f26z⟩
  · rw [g.2.2.2.1.hm, show (6 : Int32) = nI 6 from rfl, nI_ltI (by omega) (by omega)] at c9z
    rw [show zrperF tb L K kd t = _ from if_neg c9z]
    refine zr_aload_n 13 rfl rfl rfl trivial ?_
    refine zr_callv 16 (As := []) (u2 := (0, 0)) rfl rfl rfl rfl rfl rfl rfl (Nat.le_of_ble_eq_true rfl) (Nat.le_of_ble_eq_true rfl) (Nat.le_of_ble_eq_true rfl) rfl (c_fail h.2.2.1) rfl (fun v2 w2 h13z => ?_)
    obtain ⟨rfl, rfl⟩ := h13z
    refine zr_pop 17 rfl rfl rfl ?_
    refine zr_ret rfl rfl ?_
    exact ⟨rfl, _, rfl, g.no (zu_same _ _ _ _) (by rw [zu_ne (Or.inr (by decide))]; exact h.1) (fun b hb => zun hb)⟩
set_option maxRecDepth 20000 in
set_option maxHeartbeats 1000000 in
theorem c_readStatement {S : Nat × (Nat → Int32)} {d n : Nat} {ξ : Nat → Nat → Int32} {ρ : zRho} {ξ0 : Nat → Nat → Int32} {tb : Nat → Int32} {L : Nat} {t : zTk} {K : zCs} (g : zXQ ξ0 ξ tb L K t) : Zc S (d + 8) jX3_readStatement [.ref 34] (zWof n ξ (zρ1 ρ (.ref 23))) (fun r w => r = none ∧ ∃ ξ2, w = zWof n ξ2 (zρ1 ρ (.ref 23)) ∧ zRes ξ0 ξ2 tb L (zstmt tb L K t)) := by
  have h := g.2.2.1
  have hd3 := g.2.2.2.2.1
  have hm6 := g.2.2.2.2.2
  refine Zc_in (q := (3, 0, 0, 0, 2, 0, 0, zk_X3_readStatement)) rfl (Nat.le_of_ble_eq_true rfl) (L := [_, _]) rfl ?_
  refine zr_aload_n 1 rfl rfl rfl trivial ?_
  refine zr_callv 4 (As := []) (u2 := (0, 0)) rfl rfl rfl rfl rfl rfl rfl (Nat.le_of_ble_eq_true rfl) (Nat.le_of_ble_eq_true rfl) (Nat.le_of_ble_eq_true rfl) rfl (c_kindHere h) rfl (fun v2 w2 h1z => ?_)
  obtain ⟨rfl, rfl⟩ := h1z
  refine zr_istore_n 5 (L2 := [_, _]) rfl rfl (Nat.le_of_ble_eq_true rfl) (by first | exact trivial | exact rfl) rfl ?_
  refine zr_iload_n 6 rfl rfl rfl ?_
  refine zr_if_lt 17 9 rfl rfl (by decide) (fun c6z => ?_) (fun c6z => ?_)
  · refine zr_aload_n 18 rfl rfl rfl trivial ?_
    refine zr_ldcs 20 rfl rfl rfl ?_
    refine zr_callv 23 (As := [_]) (u2 := (0, 0)) rfl rfl rfl rfl rfl rfl rfl (Nat.le_of_ble_eq_true rfl) (Nat.le_of_ble_eq_true rfl) (Nat.le_of_ble_eq_true rfl) rfl (c_isName (bs := zS8) h rfl) rfl (fun v2 w2 h20z => ?_)
    obtain ⟨rfl, rfl⟩ := h20z
    refine zr_if_eq 34 26 rfl rfl (by decide) (fun c23z => ?_) (fun c23z => ?_)
    · replace c23z := zb_0.mp c23z
      refine zr_aload_n 35 rfl rfl rfl trivial ?_
      refine zr_ldcs 37 rfl rfl rfl ?_
      refine zr_callv 40 (As := [_]) (u2 := (0, 0)) rfl rfl rfl rfl rfl rfl rfl (Nat.le_of_ble_eq_true rfl) (Nat.le_of_ble_eq_true rfl) (Nat.le_of_ble_eq_true rfl) rfl (c_isName (bs := zS9) h rfl) rfl (fun v2 w2 h37z => ?_)
      obtain ⟨rfl, rfl⟩ := h37z
      refine zr_if_eq 51 43 rfl rfl (by decide) (fun c40z => ?_) (fun c40z => ?_)
      · replace c40z := zb_0.mp c40z
        refine zr_aload_n 52 rfl rfl rfl trivial ?_
        refine zr_ldcs 54 rfl rfl rfl ?_
        refine zr_callv 57 (As := [_]) (u2 := (0, 0)) rfl rfl rfl rfl rfl rfl rfl (Nat.le_of_ble_eq_true rfl) (Nat.le_of_ble_eq_true rfl) (Nat.le_of_ble_eq_true rfl) rfl (c_isName (bs := zS10) h rfl) rfl (fun v2 w2 h54z => ?_)
        obtain ⟨rfl, rfl⟩ := h54z
        refine zr_if_eq 68 60 rfl rfl (by decide) (fun c57z => ?_) (fun c57z => ?_)
        · replace c57z := zb_0.mp c57z
          refine zr_aload_n 69 rfl rfl rfl trivial ?_
          refine zr_ldcs 71 rfl rfl rfl ?_
          refine zr_callv 74 (As := [_]) (u2 := (0, 0)) rfl rfl rfl rfl rfl rfl rfl (Nat.le_of_ble_eq_true rfl) (Nat.le_of_ble_eq_true rfl) (Nat.le_of_ble_eq_true rfl) rfl (c_isName (bs := zS11) h rfl) rfl (fun v2 w2 h71z => ?_)
          obtain ⟨rfl, rfl⟩ := h71z
          refine zr_if_eq 84 77 rfl rfl (by decide) (fun c74z => ?_) (fun c74z => ?_)
          · replace c74z := zb_0.mp c74z
            refine zr_aload_n 85 rfl rfl rfl trivial ?_
            refine zr_callv 88 (As := []) (u2 := (0, 0)) rfl rfl rfl rfl rfl rfl rfl (Nat.le_of_ble_eq_true rfl) (Nat.le_of_ble_eq_true rfl) (Nat.le_of_ble_eq_true rfl) rfl (c_fail h.2.2.1) rfl (fun v2 w2 h85z => ?_)
            obtain ⟨rfl, rfl⟩ := h85z
            refine zr_pop 89 rfl rfl rfl ?_
            refine zr_ret rfl rfl ?_
            unfold zstmt
            rw [if_neg (Int32.not_le.mpr c6z), if_neg c23z, if_neg c40z, if_neg c57z, if_neg c74z]
            exact ⟨rfl, _, rfl, g.no (zu_same _ _ _ _) (by rw [zu_ne (Or.inr (by decide))]; exact h.1) (fun b hb => zun hb)⟩
          · replace c74z := zb_n0.mp c74z
            refine zr_aload_n 78 rfl rfl rfl trivial ?_
            refine zr_callv 81 (As := []) (u2 := (0, 0)) rfl rfl rfl rfl rfl rfl rfl (Nat.le_of_ble_eq_true rfl) (Nat.le_of_ble_eq_true rfl) (Nat.le_of_ble_eq_true rfl) rfl (c_readDate g) rfl (fun v2 w2 h78z => ?_)
            obtain ⟨rfl, ξ78z, rfl, x78z⟩ := h78z
            refine zr_goto 89 rfl (by decide) ?_
            refine zr_ret rfl rfl ?_
            unfold zstmt
            rw [if_neg (Int32.not_le.mpr c6z), if_neg c23z, if_neg c40z, if_neg c57z, if_pos c74z]
            exact ⟨rfl, ξ78z, rfl, x78z⟩
        · replace c57z := zb_n0.mp c57z
          refine zr_aload_n 61 rfl rfl rfl trivial ?_
          refine zr_iconst 62 (x := 2) rfl rfl (by decide) ?_
          refine zr_callv 65 (As := [_]) (u2 := (0, 0)) rfl rfl rfl rfl rfl rfl rfl (Nat.le_of_ble_eq_true rfl) (Nat.le_of_ble_eq_true rfl) (Nat.le_of_ble_eq_true rfl) rfl (c_readLaw (l := 2) g (by decide)) rfl (fun v2 w2 h62z => ?_)
          obtain ⟨rfl, ξ62z, rfl, x62z⟩ := h62z
          refine zr_goto 89 rfl (by decide) ?_
          refine zr_ret rfl rfl ?_
          unfold zstmt
          rw [if_neg (Int32.not_le.mpr c6z), if_neg c23z, if_neg c40z, if_pos c57z]
          exact ⟨rfl, ξ62z, rfl, x62z⟩
      · replace c40z := zb_n0.mp c40z
        refine zr_aload_n 44 rfl rfl rfl trivial ?_
        refine zr_iconst 45 (x := 1) rfl rfl (by decide) ?_
        refine zr_callv 48 (As := [_]) (u2 := (0, 0)) rfl rfl rfl rfl rfl rfl rfl (Nat.le_of_ble_eq_true rfl) (Nat.le_of_ble_eq_true rfl) (Nat.le_of_ble_eq_true rfl) rfl (c_readLaw (l := 1) g (by decide)) rfl (fun v2 w2 h45z => ?_)
        obtain ⟨rfl, ξ45z, rfl, x45z⟩ := h45z
        refine zr_goto 89 rfl (by decide) ?_
        refine zr_ret rfl rfl ?_
        unfold zstmt
        rw [if_neg (Int32.not_le.mpr c6z), if_neg c23z, if_pos c40z]
        exact ⟨rfl, ξ45z, rfl, x45z⟩
    · replace c23z := zb_n0.mp c23z
      refine zr_aload_n 27 rfl rfl rfl trivial ?_
      refine zr_iconst 28 (x := 0) rfl rfl (by decide) ?_
      refine zr_callv 31 (As := [_]) (u2 := (0, 0)) rfl rfl rfl rfl rfl rfl rfl (Nat.le_of_ble_eq_true rfl) (Nat.le_of_ble_eq_true rfl) (Nat.le_of_ble_eq_true rfl) rfl (c_readLaw (l := 0) g (by decide)) rfl (fun v2 w2 h28z => ?_)
      obtain ⟨rfl, ξ28z, rfl, x28z⟩ := h28z
      refine zr_goto 89 rfl (by decide) ?_
      refine zr_ret rfl rfl ?_
      unfold zstmt
      rw [if_neg (Int32.not_le.mpr c6z), if_pos c23z]
      exact ⟨rfl, ξ28z, rfl, x28z⟩
  · refine zr_aload_n 10 rfl rfl rfl trivial ?_
    refine zr_iload_n 11 rfl rfl rfl ?_
    refine zr_callv 14 (As := [_]) (u2 := (0, 0)) rfl rfl rfl rfl rfl rfl rfl (Nat.le_of_ble_eq_true rfl) (Nat.le_of_ble_eq_true rfl) (Nat.le_of_ble_eq_true rfl) rfl (c_readPerson g _) rfl (fun v2 w2 h11z => ?_)
    obtain ⟨rfl, ξ11z, rfl, x11z⟩ := h11z
    refine zr_goto 89 rfl (by decide) ?_
    refine zr_ret rfl rfl ?_
    unfold zstmt
    rw [if_pos (Int32.not_lt.mp c6z)]
    exact ⟨rfl, ξ11z, rfl, x11z⟩
theorem zRes.inl {ξ ξ2 : Nat → Nat → Int32} {tb : Nat → Int32} {L f : Nat} {x : zRd} (h : zRes ξ ξ2 tb L x) (e : x = .inl f) : zRes0 ξ ξ2 L ∧ ξ2 34 7 = nI f := by
  subst e
  exact h
theorem zRes.inr {ξ ξ2 : Nat → Nat → Int32} {tb : Nat → Int32} {L : Nat} {x : zRd} {q : zCs × zTk} (h : zRes ξ ξ2 tb L x) (e : x = .inr q) : zXQ ξ ξ2 tb L q.1 q.2 := by
  subst e
  exact ⟨h.1.1, h.2.1, h.2.2.1, h.2.2.2.1, h.2.2.2.2⟩
/-! a clause that is read leads on -/
theorem zendF_st {tb : Nat → Int32} {L : Nat} {K : zCs} {t : zTk} {q : zCs × zTk} (h : zTw tb L t) (e : zendF tb L K t = .inr q) : t.1 < q.2.1 := by
  unfold zendF at e
  by_cases c : zisS tb t 59
  · rw [if_pos c] at e
    cases e
    have a := (h.lt (by rw [c.1]; decide)).1
    have b := zNx_st h
    show t.1 < (zNx tb L t).1
    omega
  · rw [if_neg c] at e
    cases e
theorem zNx_ge {tb : Nat → Int32} {L : Nat} {t : zTk} (h : zTw tb L t) : t.1 ≤ (zNx tb L t).1 := by
  have a := zNx_st h
  have b := h.1
  omega
theorem zillL_st {tb : Nat → Int32} {L i : Nat} : ∀ (n : Nat) (K : zCs) (t : zTk) (q : zCs × zTk), zTw tb L t → zillL tb L i n K t = .inr q → t.1 < q.2.1
  | 0, _, _, _, _, e => by cases e
  | n + 1, K, t, q, h, e => by
    unfold zillL at e
    have a1 := zNx_ge h
    have a2 := zNx_ge h.nx
    by_cases c : znok tb (zNx tb L t) 0 29
    · rw [if_pos c] at e
      by_cases c2 : zisS tb (zNx tb L (zNx tb L t)) 44
      · rw [if_pos c2] at e
        have := zillL_st n _ _ q h.nx.nx e
        omega
      · rw [if_neg c2] at e
        have := zendF_st h.nx.nx e
        omega
    · rw [if_neg c] at e
      cases e
theorem zstmt_st {tb : Nat → Int32} {L : Nat} {K : zCs} {t : zTk} {q : zCs × zTk} (h : zTw tb L t) (e : zstmt tb L K t = .inr q) : t.1 < q.2.1 := by
  have a1 := zNx_ge h
  have a2 := zNx_ge h.nx
  have a3 := zNx_ge h.nx.nx
  have a4 := zNx_ge h.nx.nx.nx
  have law : ∀ l, zrlawF tb L K l t = .inr q → t.1 < q.2.1 := fun l e => by
    unfold zrlawF at e
    split at e
    · have := zendF_st h.nx.nx e
      omega
    · cases e
  unfold zstmt at e
  split at e
  · unfold zrperF at e
    split at e
    · unfold zrper1 at e
      split at e
      · unfold zrper2 at e
        split at e
        · unfold zrper3 at e
          split at e
          · unfold zrper4 at e
            split at e
            · have := zillL_st _ _ _ q h.nx.nx.nx.nx e
              omega
            · have := zendF_st h.nx.nx.nx.nx e
              omega
          · cases e
        · cases e
      · cases e
    · cases e
  split at e
  · exact law 0 e
  split at e
  · exact law 1 e
  split at e
  · exact law 2 e
  split at e
  · unfold zrdateF at e
    split at e
    · unfold zrdate1 at e
      split at e
      · unfold zrdate2 at e
        split at e
        · unfold zrdate3 at e
          split at e
          · have := zendF_st h.nx.nx.nx.nx e
            omega
          · cases e
        · cases e
      · cases e
    · cases e
  · cases e
theorem zTw.le {tb : Nat → Int32} {L : Nat} {t : zTk} (h : zTw tb L t) : t.1 ≤ L := Nat.le_trans h.1 h.2.1
theorem zendF_f {tb : Nat → Int32} {L f : Nat} {K : zCs} {t : zTk} (h : zTw tb L t) (e : zendF tb L K t = .inl f) : f ≤ L := by
  unfold zendF at e
  split at e
  · cases e
  · cases e
    exact h.le
theorem zillL_f {tb : Nat → Int32} {L i : Nat} : ∀ (n : Nat) (K : zCs) (t : zTk) (f : Nat), zTw tb L t → zillL tb L i n K t = .inl f → f ≤ L
  | 0, _, _, _, _, e => by
    cases e
    exact Nat.zero_le _
  | n + 1, K, t, f, h, e => by
    unfold zillL at e
    split at e
    · split at e
      · exact zillL_f n _ _ f h.nx.nx e
      · exact zendF_f h.nx.nx e
    · cases e
      exact h.nx.le
theorem zstmt_f {tb : Nat → Int32} {L f : Nat} {K : zCs} {t : zTk} (h : zTw tb L t) (e : zstmt tb L K t = .inl f) : f ≤ L := by
  have law : ∀ l, zrlawF tb L K l t = .inl f → f ≤ L := fun l e => by
    unfold zrlawF at e
    split at e
    · exact zendF_f h.nx.nx e
    · cases e
      exact h.nx.le
  unfold zstmt at e
  split at e
  · unfold zrperF at e
    split at e
    · unfold zrper1 at e
      split at e
      · unfold zrper2 at e
        split at e
        · unfold zrper3 at e
          split at e
          · unfold zrper4 at e
            split at e
            · exact zillL_f _ _ _ f h.nx.nx.nx.nx e
            · exact zendF_f h.nx.nx.nx.nx e
          · cases e
            exact h.nx.nx.nx.le
        · cases e
          exact h.nx.nx.le
      · cases e
        exact h.nx.le
    · cases e
      exact h.le
  split at e
  · exact law 0 e
  split at e
  · exact law 1 e
  split at e
  · exact law 2 e
  split at e
  · unfold zrdateF at e
    split at e
    · unfold zrdate1 at e
      split at e
      · unfold zrdate2 at e
        split at e
        · unfold zrdate3 at e
          split at e
          · exact zendF_f h.nx.nx.nx.nx e
          · cases e
            exact h.nx.nx.nx.le
        · cases e
          exact h.nx.nx.le
      · cases e
        exact h.nx.le
    · cases e
      exact h.le
  · cases e
    exact h.le
/-- the first class told, before its first clause -/
def zK0 (z : Int32) : zCs := (0, 0, 0, z, zlaw1, fun _ => 0, fun _ => 0, fun _ _ => 0)
def ztask (tb : Nat → Int32) (L : Nat) (z : Int32) : Nat ⊕ zCs := zprs tb L 202 (zK0 z) (ztok tb L 0)
def zRes2 (ξ ξ2 : Nat → Nat → Int32) (L : Nat) (r : Int32) (x : Nat ⊕ zCs) : Prop := (∀ b, (b < 23 ∨ 35 ≤ b) → ξ2 b = ξ b) ∧ ξ2 34 1 = nI L ∧ match x with
  | .inl f => r = nI f
  | .inr K => r = -1 ∧ zXR ξ2 23 K.drop
theorem zXR.drop {ξ : Nat → Nat → Int32} {b : Nat} {K : zCs} (h : zXR ξ b K) : zXR (zu ξ b 4 (nI (zdropF (ξ (b + 2)) (ξ (b + 1) 0) K.D))) b K.drop := by
  refine ⟨?_, ?_, ?_, ?_, fun i hi => ?_, fun i hi => ?_, fun i hi => ?_, fun i hi k hk => ?_⟩
  · rw [zu_same, zdropF_cg K.D h.hdd, h.hl 0 (by decide)]
    rfl
  · rw [zu_ne (Or.inr (by decide))]; exact h.hm
  · rw [zu_ne (Or.inr (by decide))]; exact h.ht
  · rw [zu_ne (Or.inr (by decide))]; exact h.hz
  · rw [zun (by omega)]; exact h.hl i hi
  · rw [zun (by omega)]; exact h.hdd i (Nat.lt_of_lt_of_le hi (zdropF_le _ _ _))
  · rw [zun (by omega)]; exact h.hdp i (Nat.lt_of_lt_of_le hi (zdropF_le _ _ _))
  · rw [zun (by omega)]; exact h.hp i hi k hk
set_option maxRecDepth 20000 in
set_option maxHeartbeats 1000000 in
theorem c_readInto {S : Nat × (Nat → Int32)} {d n : Nat} {ξ : Nat → Nat → Int32} {ρ : zRho} {L : Nat} (h1 : ξ 34 1 = nI L) (hL : L ≤ 200) : Zc S (d + 9) jX3_readInto [.ref 34, .ref 23] (zWof n ξ ρ) (fun r w => ∃ ξ2, w = zWof n ξ2 (zρ1 ρ (.ref 23)) ∧ ∃ x, r = some (.int x) ∧ zRes2 ξ ξ2 L x (ztask (ξ 35) L (ξ 23 7))) := by
  refine Zc_in (q := (3, 0, 1, 1, 3, 0, 0, zk_X3_readInto)) rfl (Nat.le_of_ble_eq_true rfl) (L := [_, _, _]) rfl ?_
  have key61 : ∀ (ξ1 : Nat → Nat → Int32) (e : Int32) (F : Nat ⊕ zCs), (∀ b, (b < 23 ∨ 35 ≤ b) → ξ1 b = ξ b) → ξ1 34 1 = nI L → ∀ D : Nat, D ≤ 3 → ξ1 23 4 = nI D → ztask (ξ 35) L (ξ 23 7) = F → (match F with
      | .inl f => ξ1 34 7 = nI f
      | .inr K => ξ1 34 7 = -1 ∧ zXR ξ1 23 K ∧ K.D = D) →  Zw S (Zc S (d + 8)) 3 false 1 zk_X3_readInto (fun r w => ∃ ξ2, w = zWof n ξ2 (zρ1 ρ (.ref 23)) ∧ ∃ x, r = some (.int x) ∧ zRes2 ξ ξ2 L x (ztask (ξ 35) L (ξ 23 7))) (61, [some (.ref 34), some (.ref 23), some (.int e)], [], (0, 0), zWof n ξ1 (zρ1 ρ (.ref 23))) := by
    intro ξ1 e F f e1 D hD eD eF hF
    refine zr_aload_n 62 rfl rfl rfl trivial ?_
    refine zr_getf 65 rfl rfl rfl rfl rfl ?_
    refine zr_callv 68 (As := []) (u2 := (0, 0)) rfl rfl rfl rfl rfl rfl rfl (Nat.le_of_ble_eq_true rfl) (Nat.le_of_ble_eq_true rfl) (Nat.le_of_ble_eq_true rfl) rfl (c_dropDates zc23 eD hD) rfl (fun v2 w2 h65z => ?_)
    obtain ⟨rfl, rfl⟩ := h65z
    refine zr_aload_n 69 rfl rfl rfl trivial ?_
    refine zr_getf 72 rfl rfl rfl rfl rfl ?_
    refine zr_iret rfl rfl ?_
    refine ⟨_, rfl, _, rfl, fun b hb => by rw [zun (by omega)]; exact f b hb, e1, ?_⟩
    rw [eF]
    cases F with
    | inl f => exact hF
    | inr K =>
      obtain ⟨a1, a2, a3⟩ := hF
      subst a3
      exact ⟨a1, a2.drop⟩
  have key28 : ∀ (k : Nat) (ξ1 : Nat → Nat → Int32) (K : zCs) (tt : zTk) (j : Nat) (m : Nat), L - tt.1 = k → zXQ ξ ξ1 (ξ 35) L K tt → j ≤ tt.1 → L + 1 - tt.1 < m → ztask (ξ 35) L (ξ 23 7) = zprs (ξ 35) L m K tt →  Zw S (Zc S (d + 8)) 3 false 1 zk_X3_readInto (fun r w => ∃ ξ2, w = zWof n ξ2 (zρ1 ρ (.ref 23)) ∧ ∃ x, r = some (.int x) ∧ zRes2 ξ ξ2 L x (ztask (ξ 35) L (ξ 23 7))) (28, [some (.ref 34), some (.ref 23), some (.int (nI j))], [], (0, 0), zWof n ξ1 (zρ1 ρ (.ref 23))) := by
    intro k
    induction k using Nat.strongRecOn with
    | ind k ih =>
      intro ξ1 K tt j m hk g1 hj hm eF
      have hTw := g1.2.2.1.2.2.2.2.2.2
      obtain ⟨m2, rfl⟩ : ∃ z, m = z + 1 := ⟨m - 1, by omega⟩
      rw [zprs] at eF
      refine zr_iload_n 29 rfl rfl rfl ?_
      refine zr_aload_n 30 rfl rfl rfl trivial ?_
      refine zr_getf 33 rfl rfl rfl rfl rfl ?_
      refine zr_icmp_gt 61 36 rfl rfl (by decide) (fun c33z => ?_) (fun c33z => ?_)
      · rw [g1.2.2.1.1, nI_ltI (by have := hTw.1; have := hTw.2.1; omega) (by have := hTw.1; have := hTw.2.1; omega)] at c33z
        exact absurd c33z (by have := hTw.1; have := hTw.2.1; omega)
      · refine zr_aload_n 37 rfl rfl rfl trivial ?_
        refine zr_getf 40 rfl rfl rfl rfl rfl ?_
        refine zr_if_eq 61 43 rfl rfl (by decide) (fun c40z => ?_) (fun c40z => ?_)
        · rw [g1.2.2.1.2.2.2.2.1] at c40z
          rw [if_pos c40z] at eF
          exact key61 ξ1 _ _ g1.1 g1.2.2.1.1 K.D g1.2.2.2.2.1 g1.2.2.2.1.hd eF ⟨g1.2.1, g1.2.2.2.1, rfl⟩
        · rw [g1.2.2.1.2.2.2.2.1] at c40z
          rw [if_neg c40z] at eF
          refine zr_aload_n 44 rfl rfl rfl trivial ?_
          refine zr_getf 47 rfl rfl rfl rfl rfl ?_
          refine zr_iconst 48 (x := (-1)) rfl rfl (by decide) ?_
          refine zr_icmp_ne 61 51 rfl rfl (by decide) (fun c48z => ?_) (fun c48z => ?_)
          · exact absurd g1.2.1 c48z
          · refine zr_aload_n 52 rfl rfl rfl trivial ?_
            refine zr_callv 55 (As := []) (u2 := (0, 0)) rfl rfl rfl rfl rfl rfl rfl (Nat.le_of_ble_eq_true rfl) (Nat.le_of_ble_eq_true rfl) (Nat.le_of_ble_eq_true rfl) rfl (c_readStatement g1) rfl (fun v2 w2 h52z => ?_)
            obtain ⟨rfl, ξ2, rfl, x2⟩ := h52z
            refine zr_iinc 58 (c0 := 1) (L2 := [_, _, _]) rfl rfl rfl (by first | exact trivial | exact rfl) (by decide) rfl ?_
            refine zr_goto 28 rfl (by decide) ?_
            have hlt := (hTw.lt c40z).2
            cases eS : zstmt (ξ 35) L K tt with
            | inl f =>
              rw [eS] at eF
              obtain ⟨⟨q1, q2, D, q3, q4⟩, q5⟩ := x2.inl eS
              have key := key61 ξ2 (nI (j + 1)) _ q1 q2 D q3 q4 eF q5
              rw [nI_1]
              refine zr_iload_n 29 rfl rfl rfl ?_
              refine zr_aload_n 30 rfl rfl rfl trivial ?_
              refine zr_getf 33 rfl rfl rfl rfl rfl ?_
              refine zr_icmp_gt 61 36 rfl rfl (by decide) (fun _ => key) (fun _ => ?_)
              refine zr_aload_n 37 rfl rfl rfl trivial ?_
              refine zr_getf 40 rfl rfl rfl rfl rfl ?_
              refine zr_if_eq 61 43 rfl rfl (by decide) (fun _ => key) (fun _ => ?_)
              refine zr_aload_n 44 rfl rfl rfl trivial ?_
              refine zr_getf 47 rfl rfl rfl rfl rfl ?_
              refine zr_iconst 48 (x := (-1)) rfl rfl (by decide) ?_
              refine zr_icmp_ne 61 51 rfl rfl (by decide) (fun _ => key) (fun z => ?_)
              rw [q5] at z
              have hf : f ≤ L := zstmt_f hTw eS
              exact absurd z (by
                intro e
                have e2 := congrArg Int32.toInt e
                rw [nI_toInt (by omega), show (-1 : Int32).toInt = -1 by decide] at e2
                omega)
            | inr q =>
              rw [eS] at eF
              have st := zstmt_st hTw eS
              rw [nI_1]
              exact ih _ (by omega) ξ2 q.1 q.2 (j + 1) m2 rfl (x2.inr eS) (by omega) (by omega) eF
  refine zr_aload_n 1 rfl rfl rfl trivial ?_
  refine zr_aload_n 2 rfl rfl rfl trivial ?_
  refine zr_putf 5 rfl rfl rfl rfl (Nat.le_of_ble_eq_true rfl) rfl trivial (fun h => by cases h) (zW_ρ1 (v := .ref 23) rfl) ?_
  refine zr_aload_n 6 rfl rfl rfl trivial ?_
  refine zr_getf 9 rfl rfl rfl rfl rfl ?_
  refine zr_callv 12 (As := []) (u2 := (0, 0)) rfl rfl rfl rfl rfl rfl rfl (Nat.le_of_ble_eq_true rfl) (Nat.le_of_ble_eq_true rfl) (Nat.le_of_ble_eq_true rfl) rfl (c_clear zc23) rfl (fun v2 w2 h9z => ?_)
  obtain ⟨rfl, ξ1, rfl, l1, l4, l5, l6, l7, lf⟩ := h9z
  refine zr_aload_n 13 rfl rfl rfl trivial ?_
  refine zr_iconst 14 (x := (-1)) rfl rfl (by decide) ?_
  refine zr_putf 17 rfl rfl rfl rfl (Nat.le_of_ble_eq_true rfl) rfl trivial (fun h => by cases h) (zW_set (k := 7) rfl) ?_
  refine zr_aload_n 18 rfl rfl rfl trivial ?_
  refine zr_iconst 19 (x := 0) rfl rfl (by decide) ?_
  refine zr_putf 22 rfl rfl rfl rfl (Nat.le_of_ble_eq_true rfl) rfl trivial (fun h => by cases h) (zW_set (k := 4) rfl) ?_
  refine zr_aload_n 23 rfl rfl rfl trivial ?_
  refine zr_callv 26 (As := []) (u2 := (0, 0)) rfl rfl rfl rfl rfl rfl rfl (Nat.le_of_ble_eq_true rfl) (Nat.le_of_ble_eq_true rfl) (Nat.le_of_ble_eq_true rfl) rfl (c_step (L := L) (tb := ξ 35) (e := 0) (by rw [zu_ne (Or.inr (by decide)), zu_ne (Or.inr (by decide)), lf 34 (by decide) (by decide)]; exact h1) (by rw [zun (by decide), zun (by decide), lf 35 (by decide) (by decide)]) (zu_same _ _ _ _) hL (Nat.zero_le _)) rfl (fun v2 w2 h23z => ?_)
  obtain ⟨rfl, ξ2, rfl, x2, n2, t2, f2⟩ := h23z
  refine zr_iconst 27 (x := 0) rfl rfl (by decide) ?_
  refine zr_istore_n 28 (L2 := [_, _, _]) rfl rfl (Nat.le_of_ble_eq_true rfl) (by first | exact trivial | exact rfl) rfl ?_
  refine key28 _ ξ2 (zK0 (ξ 23 7)) (ztok (ξ 35) L 0) 0 202 rfl ⟨fun b hb => ?_, ?_, x2, ?_, Nat.zero_le _, Nat.zero_le _⟩ (Nat.zero_le _) (by omega) rfl
  · rw [f2 b (by omega), zun (by omega), zun (by omega), lf b (by omega) (by omega)]
  · rw [t2, zu_ne (Or.inr (by decide)), zu_same]
  · refine ⟨?_, ?_, ?_, ?_, fun i hi => ?_, fun i hi => absurd hi (Nat.not_lt_zero _), fun i hi => absurd hi (Nat.not_lt_zero _), fun i hi => absurd hi (Nat.not_lt_zero _)⟩
    · rw [f2 23 (by decide), zun (by decide), zun (by decide)]; exact l4
    · rw [f2 23 (by decide), zun (by decide), zun (by decide)]; exact l5
    · rw [f2 23 (by decide), zun (by decide), zun (by decide)]; exact l6
    · rw [f2 23 (by decide), zun (by decide), zun (by decide)]; exact l7
    · rw [f2 _ (by decide), zun (by decide), zun (by decide)]; exact l1 i hi
