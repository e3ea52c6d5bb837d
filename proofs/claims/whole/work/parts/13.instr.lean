theorem zat_lt {α : Type} {l : List α} {k : Nat} {a : α} (h : zat l k = some a) : k < l.length := by
  rw [zat_get] at h
  exact (List.getElem?_eq_some_iff.mp h).1
theorem zown {c : Nat} {own own' : String} (h1 : zat zcn c = some own) (h2 : zat zcn c = some own') : own' = own := Option.some.inj (h2.symm.trans h1)
theorem zE_i (base : Nat) (kd : Nat → Option Nat) (tc : Nat → ClassId) (t n : Nat) (f : Nat → Int32) : zE base kd tc (.inl (t, n, .inl f)) = .inl (tc t, n, .inl f) := rfl
theorem zE_l (base : Nat) (kd : Nat → Option Nat) (tc : Nat → ClassId) (t n : Nat) (f : Nat → Int64) : zE base kd tc (.inl (t, n, .inr (.inl f))) = .inl (tc t, n, .inr (.inl f)) := rfl
theorem zE_q (base : Nat) (kd : Nat → Option Nat) (tc : Nat → ClassId) (t n : Nat) (f : Nat → Option Nat) : zE base kd tc (zaq t n f) = .inl (tc t, n, .inr (.inr (.inr (.inr (fun i => (f i).map (base + ·)))))) := rfl
theorem zE_len (base : Nat) (kd : Nat → Option Nat) (tc : Nat → ClassId) (t : Nat) (x : vp_A) : ∃ y : vp_A, zE base kd tc (.inl (t, x)) = .inl (tc t, y) ∧ y.1 = x.1 := by
  obtain ⟨n, a⟩ := x
  match a with
  | .inl f => exact ⟨_, rfl, rfl⟩
  | .inr (.inl f) => exact ⟨_, rfl, rfl⟩
  | .inr (.inr (.inl f)) => exact ⟨_, rfl, rfl⟩
  | .inr (.inr (.inr (.inl f))) => exact ⟨_, rfl, rfl⟩
  | .inr (.inr (.inr (.inr f))) => exact ⟨_, rfl, rfl⟩
theorem zcell_i (cA : ClassId) (n k : Nat) (f : Nat → Int32) (x : Int32) : (vp_cell cA (n, .inl f)).setSlot k (.int x) = vp_cell cA (n, .inl (upd f k x)) := by
  rw [vp_cell_i, vp_cell_i, arrV_store]
  congr 1
  funext q
  by_cases hq : q = k <;> simp [updV, upd, hq]
theorem zcell_l (cA : ClassId) (n k : Nat) (f : Nat → Int64) (x : Int64) : (vp_cell cA (n, .inr (.inl f))).setSlot k (.long x) = vp_cell cA (n, .inr (.inl (vp_updL f k x))) := by
  rw [vp_cell_l, vp_cell_l, arrV_store]
  congr 1
  funext q
  by_cases hq : q = k <;> simp [updV, vp_updL, hq]
theorem zcell_q (cA : ClassId) (n k : Nat) (f : Nat → Option Nat) (x : Option Nat) : (vp_cell cA (n, .inr (.inr (.inr (.inr f))))).setSlot k (va_rf x) = vp_cell cA (n, .inr (.inr (.inr (.inr (va_up f k x))))) := by
  rw [vp_cell_q, vp_cell_q, arrV_store]
  congr 1
  funext q
  by_cases hq : q = k <;> simp [updV, va_up, hq]
theorem znin {i : Int32} {n : Nat} {cA : ClassId} {f : Nat → Value} (h : vp_in i n) : ¬ (i < 0 ∨ (arrV cA n f).slots.size ≤ i.toNatClampNeg) := by rw [arrV_size]; exact h
theorem znb (x : Int32) : narrow .byte (.int x) = .int (vp_nar .byte x) := rfl
theorem zmapi (base : Nat) (f : Nat → Option Nat) (k : Nat) (v : Option Nat) : (fun i => (va_up f k v i).map (base + ·)) = va_up (fun i => (f i).map (base + ·)) k (v.map (base + ·)) := by
  funext i
  by_cases h : i = k <;> simp [va_up, h]
section ZOK
variable {p : Program} {l : Launch} {e : Env} {R : Room} {s : State} {m : MethodId} {args : Array Value} {below : List Frame} {meth : Method} {c : Code} {H : Heap} {locs : List Loc} {cells slots : Nat} {Q : State → Prop}
variable {base : Nat} {kd : Nat → Option Nat} {tc : Nat → ClassId} {D : va_G} {S : Nat × (Nat → Int32)} {cc : ByteArray} {nL : Nat} {own : String} {cn : Nat} {g : Bool} {n pc : Nat} {L : zL} {st : List Value} {u : Nat × Nat} {w : zW} {Y : zS} {ls : Array Slot}
set_option maxHeartbeats 4000000 in
theorem zput_ok (cx : zCx p s m args meth c base kd tc D S R cc nL own cn g) {idx : Nat} (hd : decode cc pc = .ok (.putfield idx, 3)) {v : Value} {a : Nat} {r : List Value} {ci k : Nat} {fs : List Value} {q : Nat × Bool} (hl : zlk zflT cn idx = some (ci, k)) (hw : w.2 a = .inr (ci, fs)) (hkl : k < fs.length) (hq : zR.zlk2 ci k = some q) (hf : zfit q.1 v) (hfin : q.2 = true → g = true ∧ ci = cn)
    (hs : zSt base kd tc D s R nL H locs cells slots ls (pc, L, v :: .ref a :: r, u, w))
    (kk : ∀ (H1 : Heap) (locs1 : List Loc), zSt base kd tc D s R nL H1 locs1 cells slots ls (pc + 3, L, r, u, zset w a (.inr (ci, fs.set k v))) → W p l e R s m args below meth c H1 locs1 cells slots Q (F0 m (pc + 3) ls (r.map (zV base kd)))) :
    W p l e R s m args below meth c H locs cells slots Q (F0 m pc ls (zV base kd v :: .ref (base + a) :: r.map (zV base kd))) := by
  obtain ⟨hx, hb, hml, hown, hts, hK, hKon, hbs, hcn, hin, hfr, hlo⟩ := cx
  obtain ⟨own', C, T, N, e1, e2, e3, e4, e5⟩ := zlk_of zf_all hl
  have e1' := zown hcn e1
  subst e1'
  dsimp only at e2 e3 e4 e5
  obtain ⟨g1, g2, g3, g4, g5, ty, g6, fs0, q0, g7, g8, g9, g10, g11⟩ := zcls e2
  obtain ⟨z, z1, z2, z3, z4⟩ := g11 k e3
  have hqz : q = z := by
    unfold zR.zlk2 at hq
    rw [g10] at hq
    exact Option.some.inj (hq.symm.trans z1)
  subst hqz
  obtain ⟨f1, f2⟩ := zfit_ok (base := base) (kd := kd) z4 hf
  have hap := va_apart (own := own') hts (zuin g1) ty g6 g5 hK e2
  have hne : (.inr (ci, fs) : va_E) ≠ .inr (99, []) := fun h => by cases h; simp [vwCl] at e2
  obtain ⟨rr, r1, cell, q1, q2, q3, q4⟩ := hs.2.1 a _ (zws_at hs.2.2.2.2.2.2 hw hne)
  have hr : rr = (C, T, N) := Option.some.inj (r1.symm.trans e2)
  subst hr
  obtain ⟨hS, hfc, kC, hkC, hkind⟩ := hK.1 ci _ e2
  obtain ⟨cf, kf, fi, f, hi, hsl⟩ := hS k e3
  have hst := (u_facts hfc hkC (u_lays hts (zuin g1) e3) hi).1
  have hlink := hts _ (zin e5)
  have hi' : s.fieldFound? C (T k).2.1 (T k).2.2.1 = some (cf, kf, fi, f) := by rw [← e4]; exact hi
  have fin : ∀ H1 : Heap, H1[base + a]? = some (cell.setSlot f.slot (zV base kd v)) → H1.size = H.size → (∀ q : Nat, q ≠ base + a → H1[q]? = H[q]?) → W p l e R s m args below meth c H1 (locs ++ [⟨base + a, f.slot⟩]) cells slots Q (F0 m (pc + 3) ls (r.map (zV base kd))) := by
    intro H1 a1 a2 a3
    rw [hsl] at a1 ⊢
    refine kk H1 _ (hs.put hw hne ?_ a2 a3)
    refine ⟨_, e2, t_OB.to (V := updV (vp_V (fs.map (zV base kd))) k (zV base kd v)) ⟨_, a1, q2, q3, t_set q4 hap e3 _⟩ (fun j _ => ?_)⟩
    rw [vp_updV_set (by simpa using hkl)]
    show vp_V ((fs.map (zV base kd)).set k (zV base kd v)) j = vp_V ((fs.set k v).map (zV base kd)) j
    rw [List.map_set]
  have hlay := hts _ (zuin g1 _ (u_in_lay e3))
  unfold u_lay at hlay
  cases hb2 : q.2 with
  | false =>
    rw [if_neg (by rw [z2, hb2]; decide)] at hlay
    have h6 := u_store hfc hkC hkind hlay hi (g6 k e3) f1 f2
    exact W.putK hx hb (f := f) ⟨hown, hlink, ⟨_, _, _, hi'⟩, hst⟩ (by rw [q2]; exact h6) q1 q3 (by rw [hsl]; exact k2_hasslot (q4 k e3)) rfl rfl hd fin
  | true =>
    obtain ⟨hg, hcc⟩ := hfin hb2
    rw [if_pos (by rw [z2, hb2])] at hlay
    have hownC : own' = C := by
      rw [hcc] at g4
      exact zown g4 hcn
    have hcf : m.cls = cf := by
      obtain ⟨_, _, c', _, _, _, -, -, hf', -, -, -, hown2, -⟩ := Cond.laysFinal_spec hlay
      have y1 : c' = cf := by have := hi.symm.trans hf'; simp at this; exact this.1.symm
      rw [e4, ← hownC] at hown2
      rw [← y1]
      exact Option.some.inj (hown.symm.trans hown2)
    have h6 := u_fits hfc hkC hkind (Or.inr hlay) hi (g6 k e3) f1 f2
    exact W.putFinK hx hb hown hlink hi' hst hcf (hin hg) (by rw [q2]; exact h6) q1 q3 (by rw [hsl]; exact k2_hasslot (q4 k e3)) rfl rfl hd fin
end ZOK
