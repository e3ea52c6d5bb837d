set_option maxRecDepth 20000 in
set_option maxHeartbeats 1000000 in
theorem la_feed {S : Nat × (Nat → Int32)} (hS : S.1 ≤ 320) {i n a b : Nat} {ξ : Nat → Nat → Int32} {ρ : zRho} (inv : zInv n ξ ρ) (hi : 5 * i + 5 ≤ S.1) (ha : 2 * (65 - i) ≤ a) (hb : 42 * (65 - i) ≤ b) (kk : ∀ (n2 : Nat) (ξ2 : Nat → Nat → Int32) (ρ2 : zRho) (a2 b2 : Nat), zInv n2 ξ2 ρ2 → 2 * (64 - i) ≤ a2 → 42 * (64 - i) ≤ b2 → Zw S (Zc S 40) 9 false 3 zk_L_law (fun r _ => r = some (.int 1)) (1405, [some (.retAddr 4), some (.ref 0), some (.ref 42), some (.int (nI (5 * i)))], [], (a2, b2), zWof n2 ξ2 ρ2)) : Zw S (Zc S 40) 9 false 3 zk_L_law (fun r _ => r = some (.int 1)) (212, [some (.retAddr 4), some (.ref 0), some (.ref 42), some (.int (nI (5 * i)))], [], (a, b), zWof n ξ ρ) := by
  obtain ⟨r, hc⟩ := p_feed S inv ((S.2 (5 * i + 1)).toInt64 <<< ((32 : Int32).toInt64 &&& 63) ||| (S.2 (5 * i + 2)).toInt64 &&& 4294967295) (S.2 (5 * i + 3))
  refine zr_aload_n 213 rfl rfl rfl trivial ?_
  refine zr_aload_n 214 rfl rfl rfl trivial ?_
  refine zr_iload_n 215 rfl rfl rfl ?_
  refine zr_iconst 216 (x := 1) rfl rfl (by decide) ?_
  refine zr_iadd 217 rfl rfl ?_
  rw [show nI (5 * i) + 1 = nI (5 * i + 1) from nI_add _ 1]
  refine zr_ialc 218 rfl rfl (by decide) (nI_clamp (by omega)) (show vp_in (nI (5 * i + 1)) S.1 from vp_in_nI (by omega) (by omega)) ?_
  refine zr_i2l 219 rfl rfl ?_
  refine zr_bipush 221 (x := 32) rfl rfl (by decide) ?_
  refine zr_lshl 222 rfl rfl ?_
  refine zr_aload_n 223 rfl rfl rfl trivial ?_
  refine zr_iload_n 224 rfl rfl rfl ?_
  refine zr_iconst 225 (x := 2) rfl rfl (by decide) ?_
  refine zr_iadd 226 rfl rfl ?_
  rw [show nI (5 * i) + 2 = nI (5 * i + 2) from nI_add _ 2]
  refine zr_ialc 227 rfl rfl (by decide) (nI_clamp (by omega)) (show vp_in (nI (5 * i + 2)) S.1 from vp_in_nI (by omega) (by omega)) ?_
  refine zr_i2l 228 rfl rfl ?_
  refine zr_ldc2_w 231 rfl rfl rfl ?_
  refine zr_land 232 rfl rfl ?_
  refine zr_lor 233 rfl rfl ?_
  refine zr_aload_n 234 rfl rfl rfl trivial ?_
  refine zr_iload_n 235 rfl rfl rfl ?_
  refine zr_iconst 236 (x := 3) rfl rfl (by decide) ?_
  refine zr_iadd 237 rfl rfl ?_
  rw [show nI (5 * i) + 3 = nI (5 * i + 3) from nI_add _ 3]
  refine zr_ialc 238 rfl rfl (by decide) (nI_clamp (by omega)) (show vp_in (nI (5 * i + 3)) S.1 from vp_in_nI (by omega) (by omega)) ?_
  refine zr_callv 241 (As := [_, _]) (u2 := (a, b)) rfl rfl rfl rfl rfl rfl rfl (Nat.le_of_ble_eq_true rfl) (Nat.le_of_ble_eq_true rfl) (Nat.le_of_ble_eq_true rfl) rfl hc rfl (fun v2 w2 h238z => ?_)
  obtain ⟨rfl, n1, ξ1, ρ1, rfl, hc6⟩ := h238z
  refine zr_aload_n 242 rfl rfl rfl trivial ?_
  refine zr_aload_n 243 rfl rfl rfl trivial ?_
  refine zr_iload_n 244 rfl rfl rfl ?_
  refine zr_iconst 245 (x := 1) rfl rfl (by decide) ?_
  refine zr_iadd 246 rfl rfl ?_
  rw [show nI (5 * i) + 1 = nI (5 * i + 1) from nI_add _ 1]
  refine zr_ialc 247 rfl rfl (by decide) (nI_clamp (by omega)) (show vp_in (nI (5 * i + 1)) S.1 from vp_in_nI (by omega) (by omega)) ?_
  refine zr_i2l 248 rfl rfl ?_
  refine zr_bipush 250 (x := 32) rfl rfl (by decide) ?_
  refine zr_lshl 251 rfl rfl ?_
  refine zr_aload_n 252 rfl rfl rfl trivial ?_
  refine zr_iload_n 253 rfl rfl rfl ?_
  refine zr_iconst 254 (x := 2) rfl rfl (by decide) ?_
  refine zr_iadd 255 rfl rfl ?_
  rw [show nI (5 * i) + 2 = nI (5 * i + 2) from nI_add _ 2]
  refine zr_ialc 256 rfl rfl (by decide) (nI_clamp (by omega)) (show vp_in (nI (5 * i + 2)) S.1 from vp_in_nI (by omega) (by omega)) ?_
  refine zr_i2l 257 rfl rfl ?_
  refine zr_ldc2_w 260 rfl rfl rfl ?_
  refine zr_land 261 rfl rfl ?_
  refine zr_lor 262 rfl rfl ?_
  refine zr_aload_n 263 rfl rfl rfl trivial ?_
  refine zr_iload_n 264 rfl rfl rfl ?_
  refine zr_iconst 265 (x := 3) rfl rfl (by decide) ?_
  refine zr_iadd 266 rfl rfl ?_
  rw [show nI (5 * i) + 3 = nI (5 * i + 3) from nI_add _ 3]
  refine zr_ialc 267 rfl rfl (by decide) (nI_clamp (by omega)) (show vp_in (nI (5 * i + 3)) S.1 from vp_in_nI (by omega) (by omega)) ?_
  refine zr_callv 270 (As := [_, _]) (u2 := (a, b)) rfl rfl rfl rfl rfl rfl rfl (Nat.le_of_ble_eq_true rfl) (Nat.le_of_ble_eq_true rfl) (Nat.le_of_ble_eq_true rfl) rfl hc6 rfl (fun v2 w2 h267z => ?_)
  obtain ⟨rfl, n2, ξ2, ρ2, rfl, inv2⟩ := h267z
  refine zr_icmp_eq 1405 273 rfl rfl (by decide) (fun c270z => ?_) (fun c270z => ?_)
  · exact kk n2 ξ2 ρ2 a b inv2 (by omega) (by omega)
  · exact absurd rfl c270z
set_option maxRecDepth 20000 in
set_option maxHeartbeats 1000000 in
theorem la_task {S : Nat × (Nat → Int32)} (hS : S.1 ≤ 320) {i n a b : Nat} {ξ : Nat → Nat → Int32} {ρ : zRho} (inv : zInv n ξ ρ) (hi : 5 * i + 5 ≤ S.1) (ha : 2 * (65 - i) ≤ a) (hb : 42 * (65 - i) ≤ b) (kk : ∀ (n2 : Nat) (ξ2 : Nat → Nat → Int32) (ρ2 : zRho) (a2 b2 : Nat), zInv n2 ξ2 ρ2 → 2 * (64 - i) ≤ a2 → 42 * (64 - i) ≤ b2 → Zw S (Zc S 40) 9 false 3 zk_L_law (fun r _ => r = some (.int 1)) (1405, [some (.retAddr 4), some (.ref 0), some (.ref 42), some (.int (nI (5 * i)))], [], (a2, b2), zWof n2 ξ2 ρ2)) : Zw S (Zc S 40) 9 false 3 zk_L_law (fun r _ => r = some (.int 1)) (275, [some (.retAddr 4), some (.ref 0), some (.ref 42), some (.int (nI (5 * i)))], [], (a, b), zWof n ξ ρ) := by
  obtain ⟨r, hc⟩ := p_task S inv
  refine zr_aload_n 276 rfl rfl rfl trivial ?_
  refine zr_callv 279 (As := []) (u2 := (a, b)) rfl rfl rfl rfl rfl rfl rfl (Nat.le_of_ble_eq_true rfl) (Nat.le_of_ble_eq_true rfl) (Nat.le_of_ble_eq_true rfl) rfl hc rfl (fun v2 w2 h276z => ?_)
  obtain ⟨rfl, n1, ξ1, ρ1, rfl, hc6⟩ := h276z
  refine zr_aload_n 280 rfl rfl rfl trivial ?_
  refine zr_callv 283 (As := []) (u2 := (a, b)) rfl rfl rfl rfl rfl rfl rfl (Nat.le_of_ble_eq_true rfl) (Nat.le_of_ble_eq_true rfl) (Nat.le_of_ble_eq_true rfl) rfl hc6 rfl (fun v2 w2 h280z => ?_)
  obtain ⟨rfl, n2, ξ2, ρ2, rfl, inv2⟩ := h280z
  refine zr_icmp_eq 1405 286 rfl rfl (by decide) (fun c283z => ?_) (fun c283z => ?_)
  · exact kk n2 ξ2 ρ2 a b inv2 (by omega) (by omega)
  · exact absurd rfl c283z
set_option maxRecDepth 20000 in
set_option maxHeartbeats 1000000 in
theorem la_set {S : Nat × (Nat → Int32)} (hS : S.1 ≤ 320) {i n a b : Nat} {ξ : Nat → Nat → Int32} {ρ : zRho} (inv : zInv n ξ ρ) (hi : 5 * i + 5 ≤ S.1) (ha : 2 * (65 - i) ≤ a) (hb : 42 * (65 - i) ≤ b) (kk : ∀ (n2 : Nat) (ξ2 : Nat → Nat → Int32) (ρ2 : zRho) (a2 b2 : Nat), zInv n2 ξ2 ρ2 → 2 * (64 - i) ≤ a2 → 42 * (64 - i) ≤ b2 → Zw S (Zc S 40) 9 false 3 zk_L_law (fun r _ => r = some (.int 1)) (1405, [some (.retAddr 4), some (.ref 0), some (.ref 42), some (.int (nI (5 * i)))], [], (a2, b2), zWof n2 ξ2 ρ2)) : Zw S (Zc S 40) 9 false 3 zk_L_law (fun r _ => r = some (.int 1)) (288, [some (.retAddr 4), some (.ref 0), some (.ref 42), some (.int (nI (5 * i)))], [], (a, b), zWof n ξ ρ) := by
  obtain ⟨r, hc⟩ := p_set S inv (S.2 (5 * i + 1)) (S.2 (5 * i + 2))
  refine zr_aload_n 289 rfl rfl rfl trivial ?_
  refine zr_aload_n 290 rfl rfl rfl trivial ?_
  refine zr_iload_n 291 rfl rfl rfl ?_
  refine zr_iconst 292 (x := 1) rfl rfl (by decide) ?_
  refine zr_iadd 293 rfl rfl ?_
  rw [show nI (5 * i) + 1 = nI (5 * i + 1) from nI_add _ 1]
  refine zr_ialc 294 rfl rfl (by decide) (nI_clamp (by omega)) (show vp_in (nI (5 * i + 1)) S.1 from vp_in_nI (by omega) (by omega)) ?_
  refine zr_aload_n 295 rfl rfl rfl trivial ?_
  refine zr_iload_n 296 rfl rfl rfl ?_
  refine zr_iconst 297 (x := 2) rfl rfl (by decide) ?_
  refine zr_iadd 298 rfl rfl ?_
  rw [show nI (5 * i) + 2 = nI (5 * i + 2) from nI_add _ 2]
  refine zr_ialc 299 rfl rfl (by decide) (nI_clamp (by omega)) (show vp_in (nI (5 * i + 2)) S.1 from vp_in_nI (by omega) (by omega)) ?_
  refine zr_callv 302 (As := [_, _]) (u2 := (a, b)) rfl rfl rfl rfl rfl rfl rfl (Nat.le_of_ble_eq_true rfl) (Nat.le_of_ble_eq_true rfl) (Nat.le_of_ble_eq_true rfl) rfl hc rfl (fun v2 w2 h299z => ?_)
  obtain ⟨rfl, n1, ξ1, ρ1, rfl, hc6⟩ := h299z
  refine zr_aload_n 303 rfl rfl rfl trivial ?_
  refine zr_aload_n 304 rfl rfl rfl trivial ?_
  refine zr_iload_n 305 rfl rfl rfl ?_
  refine zr_iconst 306 (x := 1) rfl rfl (by decide) ?_
  refine zr_iadd 307 rfl rfl ?_
  rw [show nI (5 * i) + 1 = nI (5 * i + 1) from nI_add _ 1]
  refine zr_ialc 308 rfl rfl (by decide) (nI_clamp (by omega)) (show vp_in (nI (5 * i + 1)) S.1 from vp_in_nI (by omega) (by omega)) ?_
  refine zr_aload_n 309 rfl rfl rfl trivial ?_
  refine zr_iload_n 310 rfl rfl rfl ?_
  refine zr_iconst 311 (x := 2) rfl rfl (by decide) ?_
  refine zr_iadd 312 rfl rfl ?_
  rw [show nI (5 * i) + 2 = nI (5 * i + 2) from nI_add _ 2]
  refine zr_ialc 313 rfl rfl (by decide) (nI_clamp (by omega)) (show vp_in (nI (5 * i + 2)) S.1 from vp_in_nI (by omega) (by omega)) ?_
  refine zr_callv 316 (As := [_, _]) (u2 := (a, b)) rfl rfl rfl rfl rfl rfl rfl (Nat.le_of_ble_eq_true rfl) (Nat.le_of_ble_eq_true rfl) (Nat.le_of_ble_eq_true rfl) rfl hc6 rfl (fun v2 w2 h313z => ?_)
  obtain ⟨rfl, n2, ξ2, ρ2, rfl, inv2⟩ := h313z
  refine zr_icmp_eq 1405 319 rfl rfl (by decide) (fun c316z => ?_) (fun c316z => ?_)
  · exact kk n2 ξ2 ρ2 a b inv2 (by omega) (by omega)
  · exact absurd rfl c316z
set_option maxRecDepth 20000 in
set_option maxHeartbeats 1000000 in
theorem la_lawOf {S : Nat × (Nat → Int32)} (hS : S.1 ≤ 320) {i n a b : Nat} {ξ : Nat → Nat → Int32} {ρ : zRho} (inv : zInv n ξ ρ) (hi : 5 * i + 5 ≤ S.1) (ha : 2 * (65 - i) ≤ a) (hb : 42 * (65 - i) ≤ b) (kk : ∀ (n2 : Nat) (ξ2 : Nat → Nat → Int32) (ρ2 : zRho) (a2 b2 : Nat), zInv n2 ξ2 ρ2 → 2 * (64 - i) ≤ a2 → 42 * (64 - i) ≤ b2 → Zw S (Zc S 40) 9 false 3 zk_L_law (fun r _ => r = some (.int 1)) (1405, [some (.retAddr 4), some (.ref 0), some (.ref 42), some (.int (nI (5 * i)))], [], (a2, b2), zWof n2 ξ2 ρ2)) : Zw S (Zc S 40) 9 false 3 zk_L_law (fun r _ => r = some (.int 1)) (321, [some (.retAddr 4), some (.ref 0), some (.ref 42), some (.int (nI (5 * i)))], [], (a, b), zWof n ξ ρ) := by
  obtain ⟨r, hc⟩ := p_lawOf S inv (S.2 (5 * i + 1))
  refine zr_aload_n 322 rfl rfl rfl trivial ?_
  refine zr_aload_n 323 rfl rfl rfl trivial ?_
  refine zr_iload_n 324 rfl rfl rfl ?_
  refine zr_iconst 325 (x := 1) rfl rfl (by decide) ?_
  refine zr_iadd 326 rfl rfl ?_
  rw [show nI (5 * i) + 1 = nI (5 * i + 1) from nI_add _ 1]
  refine zr_ialc 327 rfl rfl (by decide) (nI_clamp (by omega)) (show vp_in (nI (5 * i + 1)) S.1 from vp_in_nI (by omega) (by omega)) ?_
  refine zr_callv 330 (As := [_]) (u2 := (a, b)) rfl rfl rfl rfl rfl rfl rfl (Nat.le_of_ble_eq_true rfl) (Nat.le_of_ble_eq_true rfl) (Nat.le_of_ble_eq_true rfl) rfl hc rfl (fun v2 w2 h327z => ?_)
  obtain ⟨rfl, n1, ξ1, ρ1, rfl, hc6⟩ := h327z
  refine zr_aload_n 331 rfl rfl rfl trivial ?_
  refine zr_aload_n 332 rfl rfl rfl trivial ?_
  refine zr_iload_n 333 rfl rfl rfl ?_
  refine zr_iconst 334 (x := 1) rfl rfl (by decide) ?_
  refine zr_iadd 335 rfl rfl ?_
  rw [show nI (5 * i) + 1 = nI (5 * i + 1) from nI_add _ 1]
  refine zr_ialc 336 rfl rfl (by decide) (nI_clamp (by omega)) (show vp_in (nI (5 * i + 1)) S.1 from vp_in_nI (by omega) (by omega)) ?_
  refine zr_callv 339 (As := [_]) (u2 := (a, b)) rfl rfl rfl rfl rfl rfl rfl (Nat.le_of_ble_eq_true rfl) (Nat.le_of_ble_eq_true rfl) (Nat.le_of_ble_eq_true rfl) rfl hc6 rfl (fun v2 w2 h336z => ?_)
  obtain ⟨rfl, n2, ξ2, ρ2, rfl, inv2⟩ := h336z
  refine zr_icmp_eq 1405 342 rfl rfl (by decide) (fun c339z => ?_) (fun c339z => ?_)
  · exact kk n2 ξ2 ρ2 a b inv2 (by omega) (by omega)
  · exact absurd rfl c339z
set_option maxRecDepth 20000 in
set_option maxHeartbeats 1000000 in
theorem la_date {S : Nat × (Nat → Int32)} (hS : S.1 ≤ 320) {i n a b : Nat} {ξ : Nat → Nat → Int32} {ρ : zRho} (inv : zInv n ξ ρ) (hi : 5 * i + 5 ≤ S.1) (ha : 2 * (65 - i) ≤ a) (hb : 42 * (65 - i) ≤ b) (kk : ∀ (n2 : Nat) (ξ2 : Nat → Nat → Int32) (ρ2 : zRho) (a2 b2 : Nat), zInv n2 ξ2 ρ2 → 2 * (64 - i) ≤ a2 → 42 * (64 - i) ≤ b2 → Zw S (Zc S 40) 9 false 3 zk_L_law (fun r _ => r = some (.int 1)) (1405, [some (.retAddr 4), some (.ref 0), some (.ref 42), some (.int (nI (5 * i)))], [], (a2, b2), zWof n2 ξ2 ρ2)) : Zw S (Zc S 40) 9 false 3 zk_L_law (fun r _ => r = some (.int 1)) (344, [some (.retAddr 4), some (.ref 0), some (.ref 42), some (.int (nI (5 * i)))], [], (a, b), zWof n ξ ρ) := by
  obtain ⟨r, hc⟩ := p_date S inv (S.2 (5 * i + 1)) (S.2 (5 * i + 2))
  refine zr_aload_n 345 rfl rfl rfl trivial ?_
  refine zr_aload_n 346 rfl rfl rfl trivial ?_
  refine zr_iload_n 347 rfl rfl rfl ?_
  refine zr_iconst 348 (x := 1) rfl rfl (by decide) ?_
  refine zr_iadd 349 rfl rfl ?_
  rw [show nI (5 * i) + 1 = nI (5 * i + 1) from nI_add _ 1]
  refine zr_ialc 350 rfl rfl (by decide) (nI_clamp (by omega)) (show vp_in (nI (5 * i + 1)) S.1 from vp_in_nI (by omega) (by omega)) ?_
  refine zr_aload_n 351 rfl rfl rfl trivial ?_
  refine zr_iload_n 352 rfl rfl rfl ?_
  refine zr_iconst 353 (x := 2) rfl rfl (by decide) ?_
  refine zr_iadd 354 rfl rfl ?_
  rw [show nI (5 * i) + 2 = nI (5 * i + 2) from nI_add _ 2]
  refine zr_ialc 355 rfl rfl (by decide) (nI_clamp (by omega)) (show vp_in (nI (5 * i + 2)) S.1 from vp_in_nI (by omega) (by omega)) ?_
  refine zr_callv 358 (As := [_, _]) (u2 := (a, b)) rfl rfl rfl rfl rfl rfl rfl (Nat.le_of_ble_eq_true rfl) (Nat.le_of_ble_eq_true rfl) (Nat.le_of_ble_eq_true rfl) rfl hc rfl (fun v2 w2 h355z => ?_)
  obtain ⟨rfl, n1, ξ1, ρ1, rfl, hc6⟩ := h355z
  refine zr_aload_n 359 rfl rfl rfl trivial ?_
  refine zr_aload_n 360 rfl rfl rfl trivial ?_
  refine zr_iload_n 361 rfl rfl rfl ?_
  refine zr_iconst 362 (x := 1) rfl rfl (by decide) ?_
  refine zr_iadd 363 rfl rfl ?_
  rw [show nI (5 * i) + 1 = nI (5 * i + 1) from nI_add _ 1]
  refine zr_ialc 364 rfl rfl (by decide) (nI_clamp (by omega)) (show vp_in (nI (5 * i + 1)) S.1 from vp_in_nI (by omega) (by omega)) ?_
  refine zr_aload_n 365 rfl rfl rfl trivial ?_
  refine zr_iload_n 366 rfl rfl rfl ?_
  refine zr_iconst 367 (x := 2) rfl rfl (by decide) ?_
  refine zr_iadd 368 rfl rfl ?_
  rw [show nI (5 * i) + 2 = nI (5 * i + 2) from nI_add _ 2]
  refine zr_ialc 369 rfl rfl (by decide) (nI_clamp (by omega)) (show vp_in (nI (5 * i + 2)) S.1 from vp_in_nI (by omega) (by omega)) ?_
  refine zr_callv 372 (As := [_, _]) (u2 := (a, b)) rfl rfl rfl rfl rfl rfl rfl (Nat.le_of_ble_eq_true rfl) (Nat.le_of_ble_eq_true rfl) (Nat.le_of_ble_eq_true rfl) rfl hc6 rfl (fun v2 w2 h369z => ?_)
  obtain ⟨rfl, n2, ξ2, ρ2, rfl, inv2⟩ := h369z
  refine zr_icmp_eq 1405 375 rfl rfl (by decide) (fun c372z => ?_) (fun c372z => ?_)
  · exact kk n2 ξ2 ρ2 a b inv2 (by omega) (by omega)
  · exact absurd rfl c372z
set_option maxRecDepth 20000 in
set_option maxHeartbeats 1000000 in
theorem la_dateOf {S : Nat × (Nat → Int32)} (hS : S.1 ≤ 320) {i n a b : Nat} {ξ : Nat → Nat → Int32} {ρ : zRho} (inv : zInv n ξ ρ) (hi : 5 * i + 5 ≤ S.1) (ha : 2 * (65 - i) ≤ a) (hb : 42 * (65 - i) ≤ b) (kk : ∀ (n2 : Nat) (ξ2 : Nat → Nat → Int32) (ρ2 : zRho) (a2 b2 : Nat), zInv n2 ξ2 ρ2 → 2 * (64 - i) ≤ a2 → 42 * (64 - i) ≤ b2 → Zw S (Zc S 40) 9 false 3 zk_L_law (fun r _ => r = some (.int 1)) (1405, [some (.retAddr 4), some (.ref 0), some (.ref 42), some (.int (nI (5 * i)))], [], (a2, b2), zWof n2 ξ2 ρ2)) : Zw S (Zc S 40) 9 false 3 zk_L_law (fun r _ => r = some (.int 1)) (377, [some (.retAddr 4), some (.ref 0), some (.ref 42), some (.int (nI (5 * i)))], [], (a, b), zWof n ξ ρ) := by
  obtain ⟨r, hc⟩ := p_dateOf S inv (S.2 (5 * i + 1)) (S.2 (5 * i + 2))
  refine zr_aload_n 378 rfl rfl rfl trivial ?_
  refine zr_aload_n 379 rfl rfl rfl trivial ?_
  refine zr_iload_n 380 rfl rfl rfl ?_
  refine zr_iconst 381 (x := 1) rfl rfl (by decide) ?_
  refine zr_iadd 382 rfl rfl ?_
  rw [show nI (5 * i) + 1 = nI (5 * i + 1) from nI_add _ 1]
  refine zr_ialc 383 rfl rfl (by decide) (nI_clamp (by omega)) (show vp_in (nI (5 * i + 1)) S.1 from vp_in_nI (by omega) (by omega)) ?_
  refine zr_aload_n 384 rfl rfl rfl trivial ?_
  refine zr_iload_n 385 rfl rfl rfl ?_
  refine zr_iconst 386 (x := 2) rfl rfl (by decide) ?_
  refine zr_iadd 387 rfl rfl ?_
  rw [show nI (5 * i) + 2 = nI (5 * i + 2) from nI_add _ 2]
  refine zr_ialc 388 rfl rfl (by decide) (nI_clamp (by omega)) (show vp_in (nI (5 * i + 2)) S.1 from vp_in_nI (by omega) (by omega)) ?_
  refine zr_callv 391 (As := [_, _]) (u2 := (a, b)) rfl rfl rfl rfl rfl rfl rfl (Nat.le_of_ble_eq_true rfl) (Nat.le_of_ble_eq_true rfl) (Nat.le_of_ble_eq_true rfl) rfl hc rfl (fun v2 w2 h388z => ?_)
  obtain ⟨rfl, n1, ξ1, ρ1, rfl, hc6⟩ := h388z
  refine zr_aload_n 392 rfl rfl rfl trivial ?_
  refine zr_aload_n 393 rfl rfl rfl trivial ?_
  refine zr_iload_n 394 rfl rfl rfl ?_
  refine zr_iconst 395 (x := 1) rfl rfl (by decide) ?_
  refine zr_iadd 396 rfl rfl ?_
  rw [show nI (5 * i) + 1 = nI (5 * i + 1) from nI_add _ 1]
  refine zr_ialc 397 rfl rfl (by decide) (nI_clamp (by omega)) (show vp_in (nI (5 * i + 1)) S.1 from vp_in_nI (by omega) (by omega)) ?_
  refine zr_aload_n 398 rfl rfl rfl trivial ?_
  refine zr_iload_n 399 rfl rfl rfl ?_
  refine zr_iconst 400 (x := 2) rfl rfl (by decide) ?_
  refine zr_iadd 401 rfl rfl ?_
  rw [show nI (5 * i) + 2 = nI (5 * i + 2) from nI_add _ 2]
  refine zr_ialc 402 rfl rfl (by decide) (nI_clamp (by omega)) (show vp_in (nI (5 * i + 2)) S.1 from vp_in_nI (by omega) (by omega)) ?_
  refine zr_callv 405 (As := [_, _]) (u2 := (a, b)) rfl rfl rfl rfl rfl rfl rfl (Nat.le_of_ble_eq_true rfl) (Nat.le_of_ble_eq_true rfl) (Nat.le_of_ble_eq_true rfl) rfl hc6 rfl (fun v2 w2 h402z => ?_)
  obtain ⟨rfl, n2, ξ2, ρ2, rfl, inv2⟩ := h402z
  refine zr_icmp_eq 1405 408 rfl rfl (by decide) (fun c405z => ?_) (fun c405z => ?_)
  · exact kk n2 ξ2 ρ2 a b inv2 (by omega) (by omega)
  · exact absurd rfl c405z
set_option maxRecDepth 20000 in
set_option maxHeartbeats 1000000 in
theorem la_strike {S : Nat × (Nat → Int32)} (hS : S.1 ≤ 320) {i n a b : Nat} {ξ : Nat → Nat → Int32} {ρ : zRho} (inv : zInv n ξ ρ) (hi : 5 * i + 5 ≤ S.1) (ha : 2 * (65 - i) ≤ a) (hb : 42 * (65 - i) ≤ b) (kk : ∀ (n2 : Nat) (ξ2 : Nat → Nat → Int32) (ρ2 : zRho) (a2 b2 : Nat), zInv n2 ξ2 ρ2 → 2 * (64 - i) ≤ a2 → 42 * (64 - i) ≤ b2 → Zw S (Zc S 40) 9 false 3 zk_L_law (fun r _ => r = some (.int 1)) (1405, [some (.retAddr 4), some (.ref 0), some (.ref 42), some (.int (nI (5 * i)))], [], (a2, b2), zWof n2 ξ2 ρ2)) : Zw S (Zc S 40) 9 false 3 zk_L_law (fun r _ => r = some (.int 1)) (410, [some (.retAddr 4), some (.ref 0), some (.ref 42), some (.int (nI (5 * i)))], [], (a, b), zWof n ξ ρ) := by
  obtain ⟨r, hc⟩ := p_strike S inv (S.2 (5 * i + 1))
  refine zr_aload_n 411 rfl rfl rfl trivial ?_
  refine zr_aload_n 412 rfl rfl rfl trivial ?_
  refine zr_iload_n 413 rfl rfl rfl ?_
  refine zr_iconst 414 (x := 1) rfl rfl (by decide) ?_
  refine zr_iadd 415 rfl rfl ?_
  rw [show nI (5 * i) + 1 = nI (5 * i + 1) from nI_add _ 1]
  refine zr_ialc 416 rfl rfl (by decide) (nI_clamp (by omega)) (show vp_in (nI (5 * i + 1)) S.1 from vp_in_nI (by omega) (by omega)) ?_
  refine zr_callv 419 (As := [_]) (u2 := (a, b)) rfl rfl rfl rfl rfl rfl rfl (Nat.le_of_ble_eq_true rfl) (Nat.le_of_ble_eq_true rfl) (Nat.le_of_ble_eq_true rfl) rfl hc rfl (fun v2 w2 h416z => ?_)
  obtain ⟨rfl, n1, ξ1, ρ1, rfl, hc6⟩ := h416z
  refine zr_aload_n 420 rfl rfl rfl trivial ?_
  refine zr_aload_n 421 rfl rfl rfl trivial ?_
  refine zr_iload_n 422 rfl rfl rfl ?_
  refine zr_iconst 423 (x := 1) rfl rfl (by decide) ?_
  refine zr_iadd 424 rfl rfl ?_
  rw [show nI (5 * i) + 1 = nI (5 * i + 1) from nI_add _ 1]
  refine zr_ialc 425 rfl rfl (by decide) (nI_clamp (by omega)) (show vp_in (nI (5 * i + 1)) S.1 from vp_in_nI (by omega) (by omega)) ?_
  refine zr_callv 428 (As := [_]) (u2 := (a, b)) rfl rfl rfl rfl rfl rfl rfl (Nat.le_of_ble_eq_true rfl) (Nat.le_of_ble_eq_true rfl) (Nat.le_of_ble_eq_true rfl) rfl hc6 rfl (fun v2 w2 h425z => ?_)
  obtain ⟨rfl, n2, ξ2, ρ2, rfl, inv2⟩ := h425z
  refine zr_icmp_eq 1405 431 rfl rfl (by decide) (fun c428z => ?_) (fun c428z => ?_)
  · exact kk n2 ξ2 ρ2 a b inv2 (by omega) (by omega)
  · exact absurd rfl c428z
set_option maxRecDepth 20000 in
set_option maxHeartbeats 1000000 in
theorem la_person {S : Nat × (Nat → Int32)} (hS : S.1 ≤ 320) {i n a b : Nat} {ξ : Nat → Nat → Int32} {ρ : zRho} (inv : zInv n ξ ρ) (hi : 5 * i + 5 ≤ S.1) (ha : 2 * (65 - i) ≤ a) (hb : 42 * (65 - i) ≤ b) (kk : ∀ (n2 : Nat) (ξ2 : Nat → Nat → Int32) (ρ2 : zRho) (a2 b2 : Nat), zInv n2 ξ2 ρ2 → 2 * (64 - i) ≤ a2 → 42 * (64 - i) ≤ b2 → Zw S (Zc S 40) 9 false 3 zk_L_law (fun r _ => r = some (.int 1)) (1405, [some (.retAddr 4), some (.ref 0), some (.ref 42), some (.int (nI (5 * i)))], [], (a2, b2), zWof n2 ξ2 ρ2)) : Zw S (Zc S 40) 9 false 3 zk_L_law (fun r _ => r = some (.int 1)) (433, [some (.retAddr 4), some (.ref 0), some (.ref 42), some (.int (nI (5 * i)))], [], (a, b), zWof n ξ ρ) := by
  obtain ⟨r, hc⟩ := p_person S inv (S.2 (5 * i + 1)) (S.2 (5 * i + 2)) (S.2 (5 * i + 3))
  refine zr_aload_n 434 rfl rfl rfl trivial ?_
  refine zr_aload_n 435 rfl rfl rfl trivial ?_
  refine zr_iload_n 436 rfl rfl rfl ?_
  refine zr_iconst 437 (x := 1) rfl rfl (by decide) ?_
  refine zr_iadd 438 rfl rfl ?_
  rw [show nI (5 * i) + 1 = nI (5 * i + 1) from nI_add _ 1]
  refine zr_ialc 439 rfl rfl (by decide) (nI_clamp (by omega)) (show vp_in (nI (5 * i + 1)) S.1 from vp_in_nI (by omega) (by omega)) ?_
  refine zr_aload_n 440 rfl rfl rfl trivial ?_
  refine zr_iload_n 441 rfl rfl rfl ?_
  refine zr_iconst 442 (x := 2) rfl rfl (by decide) ?_
  refine zr_iadd 443 rfl rfl ?_
  rw [show nI (5 * i) + 2 = nI (5 * i + 2) from nI_add _ 2]
  refine zr_ialc 444 rfl rfl (by decide) (nI_clamp (by omega)) (show vp_in (nI (5 * i + 2)) S.1 from vp_in_nI (by omega) (by omega)) ?_
  refine zr_aload_n 445 rfl rfl rfl trivial ?_
  refine zr_iload_n 446 rfl rfl rfl ?_
  refine zr_iconst 447 (x := 3) rfl rfl (by decide) ?_
  refine zr_iadd 448 rfl rfl ?_
  rw [show nI (5 * i) + 3 = nI (5 * i + 3) from nI_add _ 3]
  refine zr_ialc 449 rfl rfl (by decide) (nI_clamp (by omega)) (show vp_in (nI (5 * i + 3)) S.1 from vp_in_nI (by omega) (by omega)) ?_
  refine zr_callv 452 (As := [_, _, _]) (u2 := (a, b)) rfl rfl rfl rfl rfl rfl rfl (Nat.le_of_ble_eq_true rfl) (Nat.le_of_ble_eq_true rfl) (Nat.le_of_ble_eq_true rfl) rfl hc rfl (fun v2 w2 h449z => ?_)
  obtain ⟨rfl, n1, ξ1, ρ1, rfl, hc6⟩ := h449z
  refine zr_aload_n 453 rfl rfl rfl trivial ?_
  refine zr_aload_n 454 rfl rfl rfl trivial ?_
  refine zr_iload_n 455 rfl rfl rfl ?_
  refine zr_iconst 456 (x := 1) rfl rfl (by decide) ?_
  refine zr_iadd 457 rfl rfl ?_
  rw [show nI (5 * i) + 1 = nI (5 * i + 1) from nI_add _ 1]
  refine zr_ialc 458 rfl rfl (by decide) (nI_clamp (by omega)) (show vp_in (nI (5 * i + 1)) S.1 from vp_in_nI (by omega) (by omega)) ?_
  refine zr_aload_n 459 rfl rfl rfl trivial ?_
  refine zr_iload_n 460 rfl rfl rfl ?_
  refine zr_iconst 461 (x := 2) rfl rfl (by decide) ?_
  refine zr_iadd 462 rfl rfl ?_
  rw [show nI (5 * i) + 2 = nI (5 * i + 2) from nI_add _ 2]
  refine zr_ialc 463 rfl rfl (by decide) (nI_clamp (by omega)) (show vp_in (nI (5 * i + 2)) S.1 from vp_in_nI (by omega) (by omega)) ?_
  refine zr_aload_n 464 rfl rfl rfl trivial ?_
  refine zr_iload_n 465 rfl rfl rfl ?_
  refine zr_iconst 466 (x := 3) rfl rfl (by decide) ?_
  refine zr_iadd 467 rfl rfl ?_
  rw [show nI (5 * i) + 3 = nI (5 * i + 3) from nI_add _ 3]
  refine zr_ialc 468 rfl rfl (by decide) (nI_clamp (by omega)) (show vp_in (nI (5 * i + 3)) S.1 from vp_in_nI (by omega) (by omega)) ?_
  refine zr_callv 471 (As := [_, _, _]) (u2 := (a, b)) rfl rfl rfl rfl rfl rfl rfl (Nat.le_of_ble_eq_true rfl) (Nat.le_of_ble_eq_true rfl) (Nat.le_of_ble_eq_true rfl) rfl hc6 rfl (fun v2 w2 h468z => ?_)
  obtain ⟨rfl, n2, ξ2, ρ2, rfl, inv2⟩ := h468z
  refine zr_icmp_eq 1405 474 rfl rfl (by decide) (fun c471z => ?_) (fun c471z => ?_)
  · exact kk n2 ξ2 ρ2 a b inv2 (by omega) (by omega)
  · exact absurd rfl c471z
set_option maxRecDepth 20000 in
set_option maxHeartbeats 1000000 in
theorem la_personOf {S : Nat × (Nat → Int32)} (hS : S.1 ≤ 320) {i n a b : Nat} {ξ : Nat → Nat → Int32} {ρ : zRho} (inv : zInv n ξ ρ) (hi : 5 * i + 5 ≤ S.1) (ha : 2 * (65 - i) ≤ a) (hb : 42 * (65 - i) ≤ b) (kk : ∀ (n2 : Nat) (ξ2 : Nat → Nat → Int32) (ρ2 : zRho) (a2 b2 : Nat), zInv n2 ξ2 ρ2 → 2 * (64 - i) ≤ a2 → 42 * (64 - i) ≤ b2 → Zw S (Zc S 40) 9 false 3 zk_L_law (fun r _ => r = some (.int 1)) (1405, [some (.retAddr 4), some (.ref 0), some (.ref 42), some (.int (nI (5 * i)))], [], (a2, b2), zWof n2 ξ2 ρ2)) : Zw S (Zc S 40) 9 false 3 zk_L_law (fun r _ => r = some (.int 1)) (476, [some (.retAddr 4), some (.ref 0), some (.ref 42), some (.int (nI (5 * i)))], [], (a, b), zWof n ξ ρ) := by
  obtain ⟨r, hc⟩ := p_personOf S inv (S.2 (5 * i + 1)) (S.2 (5 * i + 2))
  refine zr_aload_n 477 rfl rfl rfl trivial ?_
  refine zr_aload_n 478 rfl rfl rfl trivial ?_
  refine zr_iload_n 479 rfl rfl rfl ?_
  refine zr_iconst 480 (x := 1) rfl rfl (by decide) ?_
  refine zr_iadd 481 rfl rfl ?_
  rw [show nI (5 * i) + 1 = nI (5 * i + 1) from nI_add _ 1]
  refine zr_ialc 482 rfl rfl (by decide) (nI_clamp (by omega)) (show vp_in (nI (5 * i + 1)) S.1 from vp_in_nI (by omega) (by omega)) ?_
  refine zr_aload_n 483 rfl rfl rfl trivial ?_
  refine zr_iload_n 484 rfl rfl rfl ?_
  refine zr_iconst 485 (x := 2) rfl rfl (by decide) ?_
  refine zr_iadd 486 rfl rfl ?_
  rw [show nI (5 * i) + 2 = nI (5 * i + 2) from nI_add _ 2]
  refine zr_ialc 487 rfl rfl (by decide) (nI_clamp (by omega)) (show vp_in (nI (5 * i + 2)) S.1 from vp_in_nI (by omega) (by omega)) ?_
  refine zr_callv 490 (As := [_, _]) (u2 := (a, b)) rfl rfl rfl rfl rfl rfl rfl (Nat.le_of_ble_eq_true rfl) (Nat.le_of_ble_eq_true rfl) (Nat.le_of_ble_eq_true rfl) rfl hc rfl (fun v2 w2 h487z => ?_)
  obtain ⟨rfl, n1, ξ1, ρ1, rfl, hc6⟩ := h487z
  refine zr_aload_n 491 rfl rfl rfl trivial ?_
  refine zr_aload_n 492 rfl rfl rfl trivial ?_
  refine zr_iload_n 493 rfl rfl rfl ?_
  refine zr_iconst 494 (x := 1) rfl rfl (by decide) ?_
  refine zr_iadd 495 rfl rfl ?_
  rw [show nI (5 * i) + 1 = nI (5 * i + 1) from nI_add _ 1]
  refine zr_ialc 496 rfl rfl (by decide) (nI_clamp (by omega)) (show vp_in (nI (5 * i + 1)) S.1 from vp_in_nI (by omega) (by omega)) ?_
  refine zr_aload_n 497 rfl rfl rfl trivial ?_
  refine zr_iload_n 498 rfl rfl rfl ?_
  refine zr_iconst 499 (x := 2) rfl rfl (by decide) ?_
  refine zr_iadd 500 rfl rfl ?_
  rw [show nI (5 * i) + 2 = nI (5 * i + 2) from nI_add _ 2]
  refine zr_ialc 501 rfl rfl (by decide) (nI_clamp (by omega)) (show vp_in (nI (5 * i + 2)) S.1 from vp_in_nI (by omega) (by omega)) ?_
  refine zr_callv 504 (As := [_, _]) (u2 := (a, b)) rfl rfl rfl rfl rfl rfl rfl (Nat.le_of_ble_eq_true rfl) (Nat.le_of_ble_eq_true rfl) (Nat.le_of_ble_eq_true rfl) rfl hc6 rfl (fun v2 w2 h501z => ?_)
  obtain ⟨rfl, n2, ξ2, ρ2, rfl, inv2⟩ := h501z
  refine zr_icmp_eq 1405 507 rfl rfl (by decide) (fun c504z => ?_) (fun c504z => ?_)
  · exact kk n2 ξ2 ρ2 a b inv2 (by omega) (by omega)
  · exact absurd rfl c504z
set_option maxRecDepth 20000 in
set_option maxHeartbeats 1000000 in
theorem la_mind {S : Nat × (Nat → Int32)} (hS : S.1 ≤ 320) {i n a b : Nat} {ξ : Nat → Nat → Int32} {ρ : zRho} (inv : zInv n ξ ρ) (hi : 5 * i + 5 ≤ S.1) (ha : 2 * (65 - i) ≤ a) (hb : 42 * (65 - i) ≤ b) (kk : ∀ (n2 : Nat) (ξ2 : Nat → Nat → Int32) (ρ2 : zRho) (a2 b2 : Nat), zInv n2 ξ2 ρ2 → 2 * (64 - i) ≤ a2 → 42 * (64 - i) ≤ b2 → Zw S (Zc S 40) 9 false 3 zk_L_law (fun r _ => r = some (.int 1)) (1405, [some (.retAddr 4), some (.ref 0), some (.ref 42), some (.int (nI (5 * i)))], [], (a2, b2), zWof n2 ξ2 ρ2)) : Zw S (Zc S 40) 9 false 3 zk_L_law (fun r _ => r = some (.int 1)) (509, [some (.retAddr 4), some (.ref 0), some (.ref 42), some (.int (nI (5 * i)))], [], (a, b), zWof n ξ ρ) := by
  obtain ⟨r, hc⟩ := p_mind S inv (S.2 (5 * i + 1)) (S.2 (5 * i + 2)) (S.2 (5 * i + 3))
  refine zr_aload_n 510 rfl rfl rfl trivial ?_
  refine zr_aload_n 511 rfl rfl rfl trivial ?_
  refine zr_iload_n 512 rfl rfl rfl ?_
  refine zr_iconst 513 (x := 1) rfl rfl (by decide) ?_
  refine zr_iadd 514 rfl rfl ?_
  rw [show nI (5 * i) + 1 = nI (5 * i + 1) from nI_add _ 1]
  refine zr_ialc 515 rfl rfl (by decide) (nI_clamp (by omega)) (show vp_in (nI (5 * i + 1)) S.1 from vp_in_nI (by omega) (by omega)) ?_
  refine zr_aload_n 516 rfl rfl rfl trivial ?_
  refine zr_iload_n 517 rfl rfl rfl ?_
  refine zr_iconst 518 (x := 2) rfl rfl (by decide) ?_
  refine zr_iadd 519 rfl rfl ?_
  rw [show nI (5 * i) + 2 = nI (5 * i + 2) from nI_add _ 2]
  refine zr_ialc 520 rfl rfl (by decide) (nI_clamp (by omega)) (show vp_in (nI (5 * i + 2)) S.1 from vp_in_nI (by omega) (by omega)) ?_
  refine zr_aload_n 521 rfl rfl rfl trivial ?_
  refine zr_iload_n 522 rfl rfl rfl ?_
  refine zr_iconst 523 (x := 3) rfl rfl (by decide) ?_
  refine zr_iadd 524 rfl rfl ?_
  rw [show nI (5 * i) + 3 = nI (5 * i + 3) from nI_add _ 3]
  refine zr_ialc 525 rfl rfl (by decide) (nI_clamp (by omega)) (show vp_in (nI (5 * i + 3)) S.1 from vp_in_nI (by omega) (by omega)) ?_
  refine zr_callv 528 (As := [_, _, _]) (u2 := (a, b)) rfl rfl rfl rfl rfl rfl rfl (Nat.le_of_ble_eq_true rfl) (Nat.le_of_ble_eq_true rfl) (Nat.le_of_ble_eq_true rfl) rfl hc rfl (fun v2 w2 h525z => ?_)
  obtain ⟨rfl, n1, ξ1, ρ1, rfl, hc6⟩ := h525z
  refine zr_aload_n 529 rfl rfl rfl trivial ?_
  refine zr_aload_n 530 rfl rfl rfl trivial ?_
  refine zr_iload_n 531 rfl rfl rfl ?_
  refine zr_iconst 532 (x := 1) rfl rfl (by decide) ?_
  refine zr_iadd 533 rfl rfl ?_
  rw [show nI (5 * i) + 1 = nI (5 * i + 1) from nI_add _ 1]
  refine zr_ialc 534 rfl rfl (by decide) (nI_clamp (by omega)) (show vp_in (nI (5 * i + 1)) S.1 from vp_in_nI (by omega) (by omega)) ?_
  refine zr_aload_n 535 rfl rfl rfl trivial ?_
  refine zr_iload_n 536 rfl rfl rfl ?_
  refine zr_iconst 537 (x := 2) rfl rfl (by decide) ?_
  refine zr_iadd 538 rfl rfl ?_
  rw [show nI (5 * i) + 2 = nI (5 * i + 2) from nI_add _ 2]
  refine zr_ialc 539 rfl rfl (by decide) (nI_clamp (by omega)) (show vp_in (nI (5 * i + 2)) S.1 from vp_in_nI (by omega) (by omega)) ?_
  refine zr_aload_n 540 rfl rfl rfl trivial ?_
  refine zr_iload_n 541 rfl rfl rfl ?_
  refine zr_iconst 542 (x := 3) rfl rfl (by decide) ?_
  refine zr_iadd 543 rfl rfl ?_
  rw [show nI (5 * i) + 3 = nI (5 * i + 3) from nI_add _ 3]
  refine zr_ialc 544 rfl rfl (by decide) (nI_clamp (by omega)) (show vp_in (nI (5 * i + 3)) S.1 from vp_in_nI (by omega) (by omega)) ?_
  refine zr_callv 547 (As := [_, _, _]) (u2 := (a, b)) rfl rfl rfl rfl rfl rfl rfl (Nat.le_of_ble_eq_true rfl) (Nat.le_of_ble_eq_true rfl) (Nat.le_of_ble_eq_true rfl) rfl hc6 rfl (fun v2 w2 h544z => ?_)
  obtain ⟨rfl, n2, ξ2, ρ2, rfl, inv2⟩ := h544z
  refine zr_icmp_eq 1405 550 rfl rfl (by decide) (fun c547z => ?_) (fun c547z => ?_)
  · exact kk n2 ξ2 ρ2 a b inv2 (by omega) (by omega)
  · exact absurd rfl c547z
set_option maxRecDepth 20000 in
set_option maxHeartbeats 1000000 in
theorem la_ill {S : Nat × (Nat → Int32)} (hS : S.1 ≤ 320) {i n a b : Nat} {ξ : Nat → Nat → Int32} {ρ : zRho} (inv : zInv n ξ ρ) (hi : 5 * i + 5 ≤ S.1) (ha : 2 * (65 - i) ≤ a) (hb : 42 * (65 - i) ≤ b) (kk : ∀ (n2 : Nat) (ξ2 : Nat → Nat → Int32) (ρ2 : zRho) (a2 b2 : Nat), zInv n2 ξ2 ρ2 → 2 * (64 - i) ≤ a2 → 42 * (64 - i) ≤ b2 → Zw S (Zc S 40) 9 false 3 zk_L_law (fun r _ => r = some (.int 1)) (1405, [some (.retAddr 4), some (.ref 0), some (.ref 42), some (.int (nI (5 * i)))], [], (a2, b2), zWof n2 ξ2 ρ2)) : Zw S (Zc S 40) 9 false 3 zk_L_law (fun r _ => r = some (.int 1)) (552, [some (.retAddr 4), some (.ref 0), some (.ref 42), some (.int (nI (5 * i)))], [], (a, b), zWof n ξ ρ) := by
  obtain ⟨r, hc⟩ := p_ill S inv (S.2 (5 * i + 1)) (S.2 (5 * i + 2))
  refine zr_aload_n 553 rfl rfl rfl trivial ?_
  refine zr_aload_n 554 rfl rfl rfl trivial ?_
  refine zr_iload_n 555 rfl rfl rfl ?_
  refine zr_iconst 556 (x := 1) rfl rfl (by decide) ?_
  refine zr_iadd 557 rfl rfl ?_
  rw [show nI (5 * i) + 1 = nI (5 * i + 1) from nI_add _ 1]
  refine zr_ialc 558 rfl rfl (by decide) (nI_clamp (by omega)) (show vp_in (nI (5 * i + 1)) S.1 from vp_in_nI (by omega) (by omega)) ?_
  refine zr_aload_n 559 rfl rfl rfl trivial ?_
  refine zr_iload_n 560 rfl rfl rfl ?_
  refine zr_iconst 561 (x := 2) rfl rfl (by decide) ?_
  refine zr_iadd 562 rfl rfl ?_
  rw [show nI (5 * i) + 2 = nI (5 * i + 2) from nI_add _ 2]
  refine zr_ialc 563 rfl rfl (by decide) (nI_clamp (by omega)) (show vp_in (nI (5 * i + 2)) S.1 from vp_in_nI (by omega) (by omega)) ?_
  refine zr_callv 566 (As := [_, _]) (u2 := (a, b)) rfl rfl rfl rfl rfl rfl rfl (Nat.le_of_ble_eq_true rfl) (Nat.le_of_ble_eq_true rfl) (Nat.le_of_ble_eq_true rfl) rfl hc rfl (fun v2 w2 h563z => ?_)
  obtain ⟨rfl, n1, ξ1, ρ1, rfl, hc6⟩ := h563z
  refine zr_aload_n 567 rfl rfl rfl trivial ?_
  refine zr_aload_n 568 rfl rfl rfl trivial ?_
  refine zr_iload_n 569 rfl rfl rfl ?_
  refine zr_iconst 570 (x := 1) rfl rfl (by decide) ?_
  refine zr_iadd 571 rfl rfl ?_
  rw [show nI (5 * i) + 1 = nI (5 * i + 1) from nI_add _ 1]
  refine zr_ialc 572 rfl rfl (by decide) (nI_clamp (by omega)) (show vp_in (nI (5 * i + 1)) S.1 from vp_in_nI (by omega) (by omega)) ?_
  refine zr_aload_n 573 rfl rfl rfl trivial ?_
  refine zr_iload_n 574 rfl rfl rfl ?_
  refine zr_iconst 575 (x := 2) rfl rfl (by decide) ?_
  refine zr_iadd 576 rfl rfl ?_
  rw [show nI (5 * i) + 2 = nI (5 * i + 2) from nI_add _ 2]
  refine zr_ialc 577 rfl rfl (by decide) (nI_clamp (by omega)) (show vp_in (nI (5 * i + 2)) S.1 from vp_in_nI (by omega) (by omega)) ?_
  refine zr_callv 580 (As := [_, _]) (u2 := (a, b)) rfl rfl rfl rfl rfl rfl rfl (Nat.le_of_ble_eq_true rfl) (Nat.le_of_ble_eq_true rfl) (Nat.le_of_ble_eq_true rfl) rfl hc6 rfl (fun v2 w2 h577z => ?_)
  obtain ⟨rfl, n2, ξ2, ρ2, rfl, inv2⟩ := h577z
  refine zr_icmp_eq 1405 583 rfl rfl (by decide) (fun c580z => ?_) (fun c580z => ?_)
  · exact kk n2 ξ2 ρ2 a b inv2 (by omega) (by omega)
  · exact absurd rfl c580z
set_option maxRecDepth 20000 in
set_option maxHeartbeats 1000000 in
theorem la_goal {S : Nat × (Nat → Int32)} (hS : S.1 ≤ 320) {i n a b : Nat} {ξ : Nat → Nat → Int32} {ρ : zRho} (inv : zInv n ξ ρ) (hi : 5 * i + 5 ≤ S.1) (ha : 2 * (65 - i) ≤ a) (hb : 42 * (65 - i) ≤ b) (kk : ∀ (n2 : Nat) (ξ2 : Nat → Nat → Int32) (ρ2 : zRho) (a2 b2 : Nat), zInv n2 ξ2 ρ2 → 2 * (64 - i) ≤ a2 → 42 * (64 - i) ≤ b2 → Zw S (Zc S 40) 9 false 3 zk_L_law (fun r _ => r = some (.int 1)) (1405, [some (.retAddr 4), some (.ref 0), some (.ref 42), some (.int (nI (5 * i)))], [], (a2, b2), zWof n2 ξ2 ρ2)) : Zw S (Zc S 40) 9 false 3 zk_L_law (fun r _ => r = some (.int 1)) (585, [some (.retAddr 4), some (.ref 0), some (.ref 42), some (.int (nI (5 * i)))], [], (a, b), zWof n ξ ρ) := by
  obtain ⟨r, hc⟩ := p_goal S inv (S.2 (5 * i + 1)) (S.2 (5 * i + 2))
  refine zr_aload_n 586 rfl rfl rfl trivial ?_
  refine zr_aload_n 587 rfl rfl rfl trivial ?_
  refine zr_iload_n 588 rfl rfl rfl ?_
  refine zr_iconst 589 (x := 1) rfl rfl (by decide) ?_
  refine zr_iadd 590 rfl rfl ?_
  rw [show nI (5 * i) + 1 = nI (5 * i + 1) from nI_add _ 1]
  refine zr_ialc 591 rfl rfl (by decide) (nI_clamp (by omega)) (show vp_in (nI (5 * i + 1)) S.1 from vp_in_nI (by omega) (by omega)) ?_
  refine zr_aload_n 592 rfl rfl rfl trivial ?_
  refine zr_iload_n 593 rfl rfl rfl ?_
  refine zr_iconst 594 (x := 2) rfl rfl (by decide) ?_
  refine zr_iadd 595 rfl rfl ?_
  rw [show nI (5 * i) + 2 = nI (5 * i + 2) from nI_add _ 2]
  refine zr_ialc 596 rfl rfl (by decide) (nI_clamp (by omega)) (show vp_in (nI (5 * i + 2)) S.1 from vp_in_nI (by omega) (by omega)) ?_
  refine zr_callv 599 (As := [_, _]) (u2 := (a, b)) rfl rfl rfl rfl rfl rfl rfl (Nat.le_of_ble_eq_true rfl) (Nat.le_of_ble_eq_true rfl) (Nat.le_of_ble_eq_true rfl) rfl hc rfl (fun v2 w2 h596z => ?_)
  obtain ⟨rfl, n1, ξ1, ρ1, rfl, hc6⟩ := h596z
  refine zr_aload_n 600 rfl rfl rfl trivial ?_
  refine zr_aload_n 601 rfl rfl rfl trivial ?_
  refine zr_iload_n 602 rfl rfl rfl ?_
  refine zr_iconst 603 (x := 1) rfl rfl (by decide) ?_
  refine zr_iadd 604 rfl rfl ?_
  rw [show nI (5 * i) + 1 = nI (5 * i + 1) from nI_add _ 1]
  refine zr_ialc 605 rfl rfl (by decide) (nI_clamp (by omega)) (show vp_in (nI (5 * i + 1)) S.1 from vp_in_nI (by omega) (by omega)) ?_
  refine zr_aload_n 606 rfl rfl rfl trivial ?_
  refine zr_iload_n 607 rfl rfl rfl ?_
  refine zr_iconst 608 (x := 2) rfl rfl (by decide) ?_
  refine zr_iadd 609 rfl rfl ?_
  rw [show nI (5 * i) + 2 = nI (5 * i + 2) from nI_add _ 2]
  refine zr_ialc 610 rfl rfl (by decide) (nI_clamp (by omega)) (show vp_in (nI (5 * i + 2)) S.1 from vp_in_nI (by omega) (by omega)) ?_
  refine zr_callv 613 (As := [_, _]) (u2 := (a, b)) rfl rfl rfl rfl rfl rfl rfl (Nat.le_of_ble_eq_true rfl) (Nat.le_of_ble_eq_true rfl) (Nat.le_of_ble_eq_true rfl) rfl hc6 rfl (fun v2 w2 h610z => ?_)
  obtain ⟨rfl, n2, ξ2, ρ2, rfl, inv2⟩ := h610z
  refine zr_icmp_eq 1405 616 rfl rfl (by decide) (fun c613z => ?_) (fun c613z => ?_)
  · exact kk n2 ξ2 ρ2 a b inv2 (by omega) (by omega)
  · exact absurd rfl c613z
set_option maxRecDepth 20000 in
set_option maxHeartbeats 1000000 in
theorem la_today {S : Nat × (Nat → Int32)} (hS : S.1 ≤ 320) {i n a b : Nat} {ξ : Nat → Nat → Int32} {ρ : zRho} (inv : zInv n ξ ρ) (hi : 5 * i + 5 ≤ S.1) (ha : 2 * (65 - i) ≤ a) (hb : 42 * (65 - i) ≤ b) (kk : ∀ (n2 : Nat) (ξ2 : Nat → Nat → Int32) (ρ2 : zRho) (a2 b2 : Nat), zInv n2 ξ2 ρ2 → 2 * (64 - i) ≤ a2 → 42 * (64 - i) ≤ b2 → Zw S (Zc S 40) 9 false 3 zk_L_law (fun r _ => r = some (.int 1)) (1405, [some (.retAddr 4), some (.ref 0), some (.ref 42), some (.int (nI (5 * i)))], [], (a2, b2), zWof n2 ξ2 ρ2)) : Zw S (Zc S 40) 9 false 3 zk_L_law (fun r _ => r = some (.int 1)) (618, [some (.retAddr 4), some (.ref 0), some (.ref 42), some (.int (nI (5 * i)))], [], (a, b), zWof n ξ ρ) := by
  obtain ⟨r, hc⟩ := p_today S inv
  refine zr_aload_n 619 rfl rfl rfl trivial ?_
  refine zr_callv 622 (As := []) (u2 := (a, b)) rfl rfl rfl rfl rfl rfl rfl (Nat.le_of_ble_eq_true rfl) (Nat.le_of_ble_eq_true rfl) (Nat.le_of_ble_eq_true rfl) rfl hc rfl (fun v2 w2 h619z => ?_)
  obtain ⟨rfl, n1, ξ1, ρ1, rfl, hc6⟩ := h619z
  refine zr_aload_n 623 rfl rfl rfl trivial ?_
  refine zr_callv 626 (As := []) (u2 := (a, b)) rfl rfl rfl rfl rfl rfl rfl (Nat.le_of_ble_eq_true rfl) (Nat.le_of_ble_eq_true rfl) (Nat.le_of_ble_eq_true rfl) rfl hc6 rfl (fun v2 w2 h623z => ?_)
  obtain ⟨rfl, n2, ξ2, ρ2, rfl, inv2⟩ := h623z
  refine zr_icmp_eq 1405 629 rfl rfl (by decide) (fun c626z => ?_) (fun c626z => ?_)
  · exact kk n2 ξ2 ρ2 a b inv2 (by omega) (by omega)
  · exact absurd rfl c626z
set_option maxRecDepth 20000 in
set_option maxHeartbeats 1000000 in
theorem la_days {S : Nat × (Nat → Int32)} (hS : S.1 ≤ 320) {i n a b : Nat} {ξ : Nat → Nat → Int32} {ρ : zRho} (inv : zInv n ξ ρ) (hi : 5 * i + 5 ≤ S.1) (ha : 2 * (65 - i) ≤ a) (hb : 42 * (65 - i) ≤ b) (kk : ∀ (n2 : Nat) (ξ2 : Nat → Nat → Int32) (ρ2 : zRho) (a2 b2 : Nat), zInv n2 ξ2 ρ2 → 2 * (64 - i) ≤ a2 → 42 * (64 - i) ≤ b2 → Zw S (Zc S 40) 9 false 3 zk_L_law (fun r _ => r = some (.int 1)) (1405, [some (.retAddr 4), some (.ref 0), some (.ref 42), some (.int (nI (5 * i)))], [], (a2, b2), zWof n2 ξ2 ρ2)) : Zw S (Zc S 40) 9 false 3 zk_L_law (fun r _ => r = some (.int 1)) (631, [some (.retAddr 4), some (.ref 0), some (.ref 42), some (.int (nI (5 * i)))], [], (a, b), zWof n ξ ρ) := by
  obtain ⟨r, hc⟩ := p_days S inv (S.2 (5 * i + 1))
  refine zr_aload_n 632 rfl rfl rfl trivial ?_
  refine zr_aload_n 633 rfl rfl rfl trivial ?_
  refine zr_iload_n 634 rfl rfl rfl ?_
  refine zr_iconst 635 (x := 1) rfl rfl (by decide) ?_
  refine zr_iadd 636 rfl rfl ?_
  rw [show nI (5 * i) + 1 = nI (5 * i + 1) from nI_add _ 1]
  refine zr_ialc 637 rfl rfl (by decide) (nI_clamp (by omega)) (show vp_in (nI (5 * i + 1)) S.1 from vp_in_nI (by omega) (by omega)) ?_
  refine zr_callv 640 (As := [_]) (u2 := (a, b)) rfl rfl rfl rfl rfl rfl rfl (Nat.le_of_ble_eq_true rfl) (Nat.le_of_ble_eq_true rfl) (Nat.le_of_ble_eq_true rfl) rfl hc rfl (fun v2 w2 h637z => ?_)
  obtain ⟨rfl, n1, ξ1, ρ1, rfl, hc6⟩ := h637z
  refine zr_aload_n 641 rfl rfl rfl trivial ?_
  refine zr_aload_n 642 rfl rfl rfl trivial ?_
  refine zr_iload_n 643 rfl rfl rfl ?_
  refine zr_iconst 644 (x := 1) rfl rfl (by decide) ?_
  refine zr_iadd 645 rfl rfl ?_
  rw [show nI (5 * i) + 1 = nI (5 * i + 1) from nI_add _ 1]
  refine zr_ialc 646 rfl rfl (by decide) (nI_clamp (by omega)) (show vp_in (nI (5 * i + 1)) S.1 from vp_in_nI (by omega) (by omega)) ?_
  refine zr_callv 649 (As := [_]) (u2 := (a, b)) rfl rfl rfl rfl rfl rfl rfl (Nat.le_of_ble_eq_true rfl) (Nat.le_of_ble_eq_true rfl) (Nat.le_of_ble_eq_true rfl) rfl hc6 rfl (fun v2 w2 h646z => ?_)
  obtain ⟨rfl, n2, ξ2, ρ2, rfl, inv2⟩ := h646z
  refine zr_icmp_eq 1405 652 rfl rfl (by decide) (fun c649z => ?_) (fun c649z => ?_)
  · exact kk n2 ξ2 ρ2 a b inv2 (by omega) (by omega)
  · exact absurd rfl c649z
set_option maxRecDepth 20000 in
set_option maxHeartbeats 1000000 in
theorem la_heap {S : Nat × (Nat → Int32)} (hS : S.1 ≤ 320) {i n a b : Nat} {ξ : Nat → Nat → Int32} {ρ : zRho} (inv : zInv n ξ ρ) (hi : 5 * i + 5 ≤ S.1) (ha : 2 * (65 - i) ≤ a) (hb : 42 * (65 - i) ≤ b) (kk : ∀ (n2 : Nat) (ξ2 : Nat → Nat → Int32) (ρ2 : zRho) (a2 b2 : Nat), zInv n2 ξ2 ρ2 → 2 * (64 - i) ≤ a2 → 42 * (64 - i) ≤ b2 → Zw S (Zc S 40) 9 false 3 zk_L_law (fun r _ => r = some (.int 1)) (1405, [some (.retAddr 4), some (.ref 0), some (.ref 42), some (.int (nI (5 * i)))], [], (a2, b2), zWof n2 ξ2 ρ2)) : Zw S (Zc S 40) 9 false 3 zk_L_law (fun r _ => r = some (.int 1)) (654, [some (.retAddr 4), some (.ref 0), some (.ref 42), some (.int (nI (5 * i)))], [], (a, b), zWof n ξ ρ) := by
  obtain ⟨r, hc⟩ := p_heap S inv (S.2 (5 * i + 1))
  refine zr_aload_n 655 rfl rfl rfl trivial ?_
  refine zr_aload_n 656 rfl rfl rfl trivial ?_
  refine zr_iload_n 657 rfl rfl rfl ?_
  refine zr_iconst 658 (x := 1) rfl rfl (by decide) ?_
  refine zr_iadd 659 rfl rfl ?_
  rw [show nI (5 * i) + 1 = nI (5 * i + 1) from nI_add _ 1]
  refine zr_ialc 660 rfl rfl (by decide) (nI_clamp (by omega)) (show vp_in (nI (5 * i + 1)) S.1 from vp_in_nI (by omega) (by omega)) ?_
  refine zr_callv 663 (As := [_]) (u2 := (a, b)) rfl rfl rfl rfl rfl rfl rfl (Nat.le_of_ble_eq_true rfl) (Nat.le_of_ble_eq_true rfl) (Nat.le_of_ble_eq_true rfl) rfl hc rfl (fun v2 w2 h660z => ?_)
  obtain ⟨rfl, n1, ξ1, ρ1, rfl, hc6⟩ := h660z
  refine zr_aload_n 664 rfl rfl rfl trivial ?_
  refine zr_aload_n 665 rfl rfl rfl trivial ?_
  refine zr_iload_n 666 rfl rfl rfl ?_
  refine zr_iconst 667 (x := 1) rfl rfl (by decide) ?_
  refine zr_iadd 668 rfl rfl ?_
  rw [show nI (5 * i) + 1 = nI (5 * i + 1) from nI_add _ 1]
  refine zr_ialc 669 rfl rfl (by decide) (nI_clamp (by omega)) (show vp_in (nI (5 * i + 1)) S.1 from vp_in_nI (by omega) (by omega)) ?_
  refine zr_callv 672 (As := [_]) (u2 := (a, b)) rfl rfl rfl rfl rfl rfl rfl (Nat.le_of_ble_eq_true rfl) (Nat.le_of_ble_eq_true rfl) (Nat.le_of_ble_eq_true rfl) rfl hc6 rfl (fun v2 w2 h669z => ?_)
  obtain ⟨rfl, n2, ξ2, ρ2, rfl, inv2⟩ := h669z
  refine zr_icmp_eq 1405 675 rfl rfl (by decide) (fun c672z => ?_) (fun c672z => ?_)
  · exact kk n2 ξ2 ρ2 a b inv2 (by omega) (by omega)
  · exact absurd rfl c672z
set_option maxRecDepth 20000 in
set_option maxHeartbeats 1000000 in
theorem la_when {S : Nat × (Nat → Int32)} (hS : S.1 ≤ 320) {i n a b : Nat} {ξ : Nat → Nat → Int32} {ρ : zRho} (inv : zInv n ξ ρ) (hi : 5 * i + 5 ≤ S.1) (ha : 2 * (65 - i) ≤ a) (hb : 42 * (65 - i) ≤ b) (kk : ∀ (n2 : Nat) (ξ2 : Nat → Nat → Int32) (ρ2 : zRho) (a2 b2 : Nat), zInv n2 ξ2 ρ2 → 2 * (64 - i) ≤ a2 → 42 * (64 - i) ≤ b2 → Zw S (Zc S 40) 9 false 3 zk_L_law (fun r _ => r = some (.int 1)) (1405, [some (.retAddr 4), some (.ref 0), some (.ref 42), some (.int (nI (5 * i)))], [], (a2, b2), zWof n2 ξ2 ρ2)) : Zw S (Zc S 40) 9 false 3 zk_L_law (fun r _ => r = some (.int 1)) (677, [some (.retAddr 4), some (.ref 0), some (.ref 42), some (.int (nI (5 * i)))], [], (a, b), zWof n ξ ρ) := by
  obtain ⟨r, hc⟩ := p_when S inv (S.2 (5 * i + 1))
  refine zr_aload_n 678 rfl rfl rfl trivial ?_
  refine zr_aload_n 679 rfl rfl rfl trivial ?_
  refine zr_iload_n 680 rfl rfl rfl ?_
  refine zr_iconst 681 (x := 1) rfl rfl (by decide) ?_
  refine zr_iadd 682 rfl rfl ?_
  rw [show nI (5 * i) + 1 = nI (5 * i + 1) from nI_add _ 1]
  refine zr_ialc 683 rfl rfl (by decide) (nI_clamp (by omega)) (show vp_in (nI (5 * i + 1)) S.1 from vp_in_nI (by omega) (by omega)) ?_
  refine zr_callv 686 (As := [_]) (u2 := (a, b)) rfl rfl rfl rfl rfl rfl rfl (Nat.le_of_ble_eq_true rfl) (Nat.le_of_ble_eq_true rfl) (Nat.le_of_ble_eq_true rfl) rfl hc rfl (fun v2 w2 h683z => ?_)
  obtain ⟨rfl, n1, ξ1, ρ1, rfl, hc6⟩ := h683z
  refine zr_aload_n 687 rfl rfl rfl trivial ?_
  refine zr_aload_n 688 rfl rfl rfl trivial ?_
  refine zr_iload_n 689 rfl rfl rfl ?_
  refine zr_iconst 690 (x := 1) rfl rfl (by decide) ?_
  refine zr_iadd 691 rfl rfl ?_
  rw [show nI (5 * i) + 1 = nI (5 * i + 1) from nI_add _ 1]
  refine zr_ialc 692 rfl rfl (by decide) (nI_clamp (by omega)) (show vp_in (nI (5 * i + 1)) S.1 from vp_in_nI (by omega) (by omega)) ?_
  refine zr_callv 695 (As := [_]) (u2 := (a, b)) rfl rfl rfl rfl rfl rfl rfl (Nat.le_of_ble_eq_true rfl) (Nat.le_of_ble_eq_true rfl) (Nat.le_of_ble_eq_true rfl) rfl hc6 rfl (fun v2 w2 h692z => ?_)
  obtain ⟨rfl, n2, ξ2, ρ2, rfl, inv2⟩ := h692z
  refine zr_icmp_eq 1405 698 rfl rfl (by decide) (fun c695z => ?_) (fun c695z => ?_)
  · exact kk n2 ξ2 ρ2 a b inv2 (by omega) (by omega)
  · exact absurd rfl c695z
set_option maxRecDepth 20000 in
set_option maxHeartbeats 1000000 in
theorem la_markOf {S : Nat × (Nat → Int32)} (hS : S.1 ≤ 320) {i n a b : Nat} {ξ : Nat → Nat → Int32} {ρ : zRho} (inv : zInv n ξ ρ) (hi : 5 * i + 5 ≤ S.1) (ha : 2 * (65 - i) ≤ a) (hb : 42 * (65 - i) ≤ b) (kk : ∀ (n2 : Nat) (ξ2 : Nat → Nat → Int32) (ρ2 : zRho) (a2 b2 : Nat), zInv n2 ξ2 ρ2 → 2 * (64 - i) ≤ a2 → 42 * (64 - i) ≤ b2 → Zw S (Zc S 40) 9 false 3 zk_L_law (fun r _ => r = some (.int 1)) (1405, [some (.retAddr 4), some (.ref 0), some (.ref 42), some (.int (nI (5 * i)))], [], (a2, b2), zWof n2 ξ2 ρ2)) : Zw S (Zc S 40) 9 false 3 zk_L_law (fun r _ => r = some (.int 1)) (700, [some (.retAddr 4), some (.ref 0), some (.ref 42), some (.int (nI (5 * i)))], [], (a, b), zWof n ξ ρ) := by
  obtain ⟨r, hc⟩ := p_markOf S inv (S.2 (5 * i + 1))
  refine zr_aload_n 701 rfl rfl rfl trivial ?_
  refine zr_aload_n 702 rfl rfl rfl trivial ?_
  refine zr_iload_n 703 rfl rfl rfl ?_
  refine zr_iconst 704 (x := 1) rfl rfl (by decide) ?_
  refine zr_iadd 705 rfl rfl ?_
  rw [show nI (5 * i) + 1 = nI (5 * i + 1) from nI_add _ 1]
  refine zr_ialc 706 rfl rfl (by decide) (nI_clamp (by omega)) (show vp_in (nI (5 * i + 1)) S.1 from vp_in_nI (by omega) (by omega)) ?_
  refine zr_callv 709 (As := [_]) (u2 := (a, b)) rfl rfl rfl rfl rfl rfl rfl (Nat.le_of_ble_eq_true rfl) (Nat.le_of_ble_eq_true rfl) (Nat.le_of_ble_eq_true rfl) rfl hc rfl (fun v2 w2 h706z => ?_)
  obtain ⟨rfl, n1, ξ1, ρ1, rfl, hc6⟩ := h706z
  refine zr_aload_n 710 rfl rfl rfl trivial ?_
  refine zr_aload_n 711 rfl rfl rfl trivial ?_
  refine zr_iload_n 712 rfl rfl rfl ?_
  refine zr_iconst 713 (x := 1) rfl rfl (by decide) ?_
  refine zr_iadd 714 rfl rfl ?_
  rw [show nI (5 * i) + 1 = nI (5 * i + 1) from nI_add _ 1]
  refine zr_ialc 715 rfl rfl (by decide) (nI_clamp (by omega)) (show vp_in (nI (5 * i + 1)) S.1 from vp_in_nI (by omega) (by omega)) ?_
  refine zr_callv 718 (As := [_]) (u2 := (a, b)) rfl rfl rfl rfl rfl rfl rfl (Nat.le_of_ble_eq_true rfl) (Nat.le_of_ble_eq_true rfl) (Nat.le_of_ble_eq_true rfl) rfl hc6 rfl (fun v2 w2 h715z => ?_)
  obtain ⟨rfl, n2, ξ2, ρ2, rfl, inv2⟩ := h715z
  refine zr_icmp_eq 1405 721 rfl rfl (by decide) (fun c718z => ?_) (fun c718z => ?_)
  · exact kk n2 ξ2 ρ2 a b inv2 (by omega) (by omega)
  · exact absurd rfl c718z
set_option maxRecDepth 20000 in
set_option maxHeartbeats 1000000 in
theorem la_late {S : Nat × (Nat → Int32)} (hS : S.1 ≤ 320) {i n a b : Nat} {ξ : Nat → Nat → Int32} {ρ : zRho} (inv : zInv n ξ ρ) (hi : 5 * i + 5 ≤ S.1) (ha : 2 * (65 - i) ≤ a) (hb : 42 * (65 - i) ≤ b) (kk : ∀ (n2 : Nat) (ξ2 : Nat → Nat → Int32) (ρ2 : zRho) (a2 b2 : Nat), zInv n2 ξ2 ρ2 → 2 * (64 - i) ≤ a2 → 42 * (64 - i) ≤ b2 → Zw S (Zc S 40) 9 false 3 zk_L_law (fun r _ => r = some (.int 1)) (1405, [some (.retAddr 4), some (.ref 0), some (.ref 42), some (.int (nI (5 * i)))], [], (a2, b2), zWof n2 ξ2 ρ2)) : Zw S (Zc S 40) 9 false 3 zk_L_law (fun r _ => r = some (.int 1)) (723, [some (.retAddr 4), some (.ref 0), some (.ref 42), some (.int (nI (5 * i)))], [], (a, b), zWof n ξ ρ) := by
  obtain ⟨r, hc⟩ := p_late S inv
  refine zr_aload_n 724 rfl rfl rfl trivial ?_
  refine zr_callv 727 (As := []) (u2 := (a, b)) rfl rfl rfl rfl rfl rfl rfl (Nat.le_of_ble_eq_true rfl) (Nat.le_of_ble_eq_true rfl) (Nat.le_of_ble_eq_true rfl) rfl hc rfl (fun v2 w2 h724z => ?_)
  obtain ⟨rfl, n1, ξ1, ρ1, rfl, hc6⟩ := h724z
  refine zr_aload_n 728 rfl rfl rfl trivial ?_
  refine zr_callv 731 (As := []) (u2 := (a, b)) rfl rfl rfl rfl rfl rfl rfl (Nat.le_of_ble_eq_true rfl) (Nat.le_of_ble_eq_true rfl) (Nat.le_of_ble_eq_true rfl) rfl hc6 rfl (fun v2 w2 h728z => ?_)
  obtain ⟨rfl, n2, ξ2, ρ2, rfl, inv2⟩ := h728z
  refine zr_icmp_eq 1405 734 rfl rfl (by decide) (fun c731z => ?_) (fun c731z => ?_)
  · exact kk n2 ξ2 ρ2 a b inv2 (by omega) (by omega)
  · exact absurd rfl c731z
set_option maxRecDepth 20000 in
set_option maxHeartbeats 1000000 in
theorem la_marks {S : Nat × (Nat → Int32)} (hS : S.1 ≤ 320) {i n a b : Nat} {ξ : Nat → Nat → Int32} {ρ : zRho} (inv : zInv n ξ ρ) (hi : 5 * i + 5 ≤ S.1) (ha : 2 * (65 - i) ≤ a) (hb : 42 * (65 - i) ≤ b) (kk : ∀ (n2 : Nat) (ξ2 : Nat → Nat → Int32) (ρ2 : zRho) (a2 b2 : Nat), zInv n2 ξ2 ρ2 → 2 * (64 - i) ≤ a2 → 42 * (64 - i) ≤ b2 → Zw S (Zc S 40) 9 false 3 zk_L_law (fun r _ => r = some (.int 1)) (1405, [some (.retAddr 4), some (.ref 0), some (.ref 42), some (.int (nI (5 * i)))], [], (a2, b2), zWof n2 ξ2 ρ2)) : Zw S (Zc S 40) 9 false 3 zk_L_law (fun r _ => r = some (.int 1)) (736, [some (.retAddr 4), some (.ref 0), some (.ref 42), some (.int (nI (5 * i)))], [], (a, b), zWof n ξ ρ) := by
  obtain ⟨r, hc⟩ := p_marks S inv
  refine zr_aload_n 737 rfl rfl rfl trivial ?_
  refine zr_callv 740 (As := []) (u2 := (a, b)) rfl rfl rfl rfl rfl rfl rfl (Nat.le_of_ble_eq_true rfl) (Nat.le_of_ble_eq_true rfl) (Nat.le_of_ble_eq_true rfl) rfl hc rfl (fun v2 w2 h737z => ?_)
  obtain ⟨rfl, n1, ξ1, ρ1, rfl, hc6⟩ := h737z
  refine zr_aload_n 741 rfl rfl rfl trivial ?_
  refine zr_callv 744 (As := []) (u2 := (a, b)) rfl rfl rfl rfl rfl rfl rfl (Nat.le_of_ble_eq_true rfl) (Nat.le_of_ble_eq_true rfl) (Nat.le_of_ble_eq_true rfl) rfl hc6 rfl (fun v2 w2 h741z => ?_)
  obtain ⟨rfl, n2, ξ2, ρ2, rfl, inv2⟩ := h741z
  refine zr_icmp_eq 1405 747 rfl rfl (by decide) (fun c744z => ?_) (fun c744z => ?_)
  · exact kk n2 ξ2 ρ2 a b inv2 (by omega) (by omega)
  · exact absurd rfl c744z
set_option maxRecDepth 20000 in
set_option maxHeartbeats 1000000 in
theorem la_bestDate {S : Nat × (Nat → Int32)} (hS : S.1 ≤ 320) {i n a b : Nat} {ξ : Nat → Nat → Int32} {ρ : zRho} (inv : zInv n ξ ρ) (hi : 5 * i + 5 ≤ S.1) (ha : 2 * (65 - i) ≤ a) (hb : 42 * (65 - i) ≤ b) (kk : ∀ (n2 : Nat) (ξ2 : Nat → Nat → Int32) (ρ2 : zRho) (a2 b2 : Nat), zInv n2 ξ2 ρ2 → 2 * (64 - i) ≤ a2 → 42 * (64 - i) ≤ b2 → Zw S (Zc S 40) 9 false 3 zk_L_law (fun r _ => r = some (.int 1)) (1405, [some (.retAddr 4), some (.ref 0), some (.ref 42), some (.int (nI (5 * i)))], [], (a2, b2), zWof n2 ξ2 ρ2)) : Zw S (Zc S 40) 9 false 3 zk_L_law (fun r _ => r = some (.int 1)) (749, [some (.retAddr 4), some (.ref 0), some (.ref 42), some (.int (nI (5 * i)))], [], (a, b), zWof n ξ ρ) := by
  obtain ⟨r, hc⟩ := p_bestDate S inv
  refine zr_aload_n 750 rfl rfl rfl trivial ?_
  refine zr_callv 753 (As := []) (u2 := (a, b)) rfl rfl rfl rfl rfl rfl rfl (Nat.le_of_ble_eq_true rfl) (Nat.le_of_ble_eq_true rfl) (Nat.le_of_ble_eq_true rfl) rfl hc rfl (fun v2 w2 h750z => ?_)
  obtain ⟨rfl, n1, ξ1, ρ1, rfl, hc6⟩ := h750z
  refine zr_aload_n 754 rfl rfl rfl trivial ?_
  refine zr_callv 757 (As := []) (u2 := (a, b)) rfl rfl rfl rfl rfl rfl rfl (Nat.le_of_ble_eq_true rfl) (Nat.le_of_ble_eq_true rfl) (Nat.le_of_ble_eq_true rfl) rfl hc6 rfl (fun v2 w2 h754z => ?_)
  obtain ⟨rfl, n2, ξ2, ρ2, rfl, inv2⟩ := h754z
  refine zr_icmp_eq 1405 760 rfl rfl (by decide) (fun c757z => ?_) (fun c757z => ?_)
  · exact kk n2 ξ2 ρ2 a b inv2 (by omega) (by omega)
  · exact absurd rfl c757z
set_option maxRecDepth 20000 in
set_option maxHeartbeats 1000000 in
theorem la_enough {S : Nat × (Nat → Int32)} (hS : S.1 ≤ 320) {i n a b : Nat} {ξ : Nat → Nat → Int32} {ρ : zRho} (inv : zInv n ξ ρ) (hi : 5 * i + 5 ≤ S.1) (ha : 2 * (65 - i) ≤ a) (hb : 42 * (65 - i) ≤ b) (kk : ∀ (n2 : Nat) (ξ2 : Nat → Nat → Int32) (ρ2 : zRho) (a2 b2 : Nat), zInv n2 ξ2 ρ2 → 2 * (64 - i) ≤ a2 → 42 * (64 - i) ≤ b2 → Zw S (Zc S 40) 9 false 3 zk_L_law (fun r _ => r = some (.int 1)) (1405, [some (.retAddr 4), some (.ref 0), some (.ref 42), some (.int (nI (5 * i)))], [], (a2, b2), zWof n2 ξ2 ρ2)) : Zw S (Zc S 40) 9 false 3 zk_L_law (fun r _ => r = some (.int 1)) (762, [some (.retAddr 4), some (.ref 0), some (.ref 42), some (.int (nI (5 * i)))], [], (a, b), zWof n ξ ρ) := by
  obtain ⟨r, hc⟩ := p_enough S inv (S.2 (5 * i + 1)) (S.2 (5 * i + 2))
  refine zr_aload_n 763 rfl rfl rfl trivial ?_
  refine zr_aload_n 764 rfl rfl rfl trivial ?_
  refine zr_iload_n 765 rfl rfl rfl ?_
  refine zr_iconst 766 (x := 1) rfl rfl (by decide) ?_
  refine zr_iadd 767 rfl rfl ?_
  rw [show nI (5 * i) + 1 = nI (5 * i + 1) from nI_add _ 1]
  refine zr_ialc 768 rfl rfl (by decide) (nI_clamp (by omega)) (show vp_in (nI (5 * i + 1)) S.1 from vp_in_nI (by omega) (by omega)) ?_
  refine zr_aload_n 769 rfl rfl rfl trivial ?_
  refine zr_iload_n 770 rfl rfl rfl ?_
  refine zr_iconst 771 (x := 2) rfl rfl (by decide) ?_
  refine zr_iadd 772 rfl rfl ?_
  rw [show nI (5 * i) + 2 = nI (5 * i + 2) from nI_add _ 2]
  refine zr_ialc 773 rfl rfl (by decide) (nI_clamp (by omega)) (show vp_in (nI (5 * i + 2)) S.1 from vp_in_nI (by omega) (by omega)) ?_
  refine zr_callv 776 (As := [_, _]) (u2 := (a, b)) rfl rfl rfl rfl rfl rfl rfl (Nat.le_of_ble_eq_true rfl) (Nat.le_of_ble_eq_true rfl) (Nat.le_of_ble_eq_true rfl) rfl hc rfl (fun v2 w2 h773z => ?_)
  obtain ⟨rfl, n1, ξ1, ρ1, rfl, hc6⟩ := h773z
  refine zr_aload_n 777 rfl rfl rfl trivial ?_
  refine zr_aload_n 778 rfl rfl rfl trivial ?_
  refine zr_iload_n 779 rfl rfl rfl ?_
  refine zr_iconst 780 (x := 1) rfl rfl (by decide) ?_
  refine zr_iadd 781 rfl rfl ?_
  rw [show nI (5 * i) + 1 = nI (5 * i + 1) from nI_add _ 1]
  refine zr_ialc 782 rfl rfl (by decide) (nI_clamp (by omega)) (show vp_in (nI (5 * i + 1)) S.1 from vp_in_nI (by omega) (by omega)) ?_
  refine zr_aload_n 783 rfl rfl rfl trivial ?_
  refine zr_iload_n 784 rfl rfl rfl ?_
  refine zr_iconst 785 (x := 2) rfl rfl (by decide) ?_
  refine zr_iadd 786 rfl rfl ?_
  rw [show nI (5 * i) + 2 = nI (5 * i + 2) from nI_add _ 2]
  refine zr_ialc 787 rfl rfl (by decide) (nI_clamp (by omega)) (show vp_in (nI (5 * i + 2)) S.1 from vp_in_nI (by omega) (by omega)) ?_
  refine zr_callv 790 (As := [_, _]) (u2 := (a, b)) rfl rfl rfl rfl rfl rfl rfl (Nat.le_of_ble_eq_true rfl) (Nat.le_of_ble_eq_true rfl) (Nat.le_of_ble_eq_true rfl) rfl hc6 rfl (fun v2 w2 h787z => ?_)
  obtain ⟨rfl, n2, ξ2, ρ2, rfl, inv2⟩ := h787z
  refine zr_icmp_eq 1405 793 rfl rfl (by decide) (fun c790z => ?_) (fun c790z => ?_)
  · exact kk n2 ξ2 ρ2 a b inv2 (by omega) (by omega)
  · exact absurd rfl c790z
set_option maxRecDepth 20000 in
set_option maxHeartbeats 1000000 in
theorem la_patience {S : Nat × (Nat → Int32)} (hS : S.1 ≤ 320) {i n a b : Nat} {ξ : Nat → Nat → Int32} {ρ : zRho} (inv : zInv n ξ ρ) (hi : 5 * i + 5 ≤ S.1) (ha : 2 * (65 - i) ≤ a) (hb : 42 * (65 - i) ≤ b) (kk : ∀ (n2 : Nat) (ξ2 : Nat → Nat → Int32) (ρ2 : zRho) (a2 b2 : Nat), zInv n2 ξ2 ρ2 → 2 * (64 - i) ≤ a2 → 42 * (64 - i) ≤ b2 → Zw S (Zc S 40) 9 false 3 zk_L_law (fun r _ => r = some (.int 1)) (1405, [some (.retAddr 4), some (.ref 0), some (.ref 42), some (.int (nI (5 * i)))], [], (a2, b2), zWof n2 ξ2 ρ2)) : Zw S (Zc S 40) 9 false 3 zk_L_law (fun r _ => r = some (.int 1)) (795, [some (.retAddr 4), some (.ref 0), some (.ref 42), some (.int (nI (5 * i)))], [], (a, b), zWof n ξ ρ) := by
  obtain ⟨r, hc⟩ := p_patience S inv (S.2 (5 * i + 1))
  refine zr_aload_n 796 rfl rfl rfl trivial ?_
  refine zr_aload_n 797 rfl rfl rfl trivial ?_
  refine zr_iload_n 798 rfl rfl rfl ?_
  refine zr_iconst 799 (x := 1) rfl rfl (by decide) ?_
  refine zr_iadd 800 rfl rfl ?_
  rw [show nI (5 * i) + 1 = nI (5 * i + 1) from nI_add _ 1]
  refine zr_ialc 801 rfl rfl (by decide) (nI_clamp (by omega)) (show vp_in (nI (5 * i + 1)) S.1 from vp_in_nI (by omega) (by omega)) ?_
  refine zr_callv 804 (As := [_]) (u2 := (a, b)) rfl rfl rfl rfl rfl rfl rfl (Nat.le_of_ble_eq_true rfl) (Nat.le_of_ble_eq_true rfl) (Nat.le_of_ble_eq_true rfl) rfl hc rfl (fun v2 w2 h801z => ?_)
  obtain ⟨rfl, n1, ξ1, ρ1, rfl, hc6⟩ := h801z
  refine zr_aload_n 805 rfl rfl rfl trivial ?_
  refine zr_aload_n 806 rfl rfl rfl trivial ?_
  refine zr_iload_n 807 rfl rfl rfl ?_
  refine zr_iconst 808 (x := 1) rfl rfl (by decide) ?_
  refine zr_iadd 809 rfl rfl ?_
  rw [show nI (5 * i) + 1 = nI (5 * i + 1) from nI_add _ 1]
  refine zr_ialc 810 rfl rfl (by decide) (nI_clamp (by omega)) (show vp_in (nI (5 * i + 1)) S.1 from vp_in_nI (by omega) (by omega)) ?_
  refine zr_callv 813 (As := [_]) (u2 := (a, b)) rfl rfl rfl rfl rfl rfl rfl (Nat.le_of_ble_eq_true rfl) (Nat.le_of_ble_eq_true rfl) (Nat.le_of_ble_eq_true rfl) rfl hc6 rfl (fun v2 w2 h810z => ?_)
  obtain ⟨rfl, n2, ξ2, ρ2, rfl, inv2⟩ := h810z
  refine zr_icmp_eq 1405 816 rfl rfl (by decide) (fun c813z => ?_) (fun c813z => ?_)
  · exact kk n2 ξ2 ρ2 a b inv2 (by omega) (by omega)
  · exact absurd rfl c813z
set_option maxRecDepth 20000 in
set_option maxHeartbeats 1000000 in
theorem la_worst {S : Nat × (Nat → Int32)} (hS : S.1 ≤ 320) {i n a b : Nat} {ξ : Nat → Nat → Int32} {ρ : zRho} (inv : zInv n ξ ρ) (hi : 5 * i + 5 ≤ S.1) (ha : 2 * (65 - i) ≤ a) (hb : 42 * (65 - i) ≤ b) (kk : ∀ (n2 : Nat) (ξ2 : Nat → Nat → Int32) (ρ2 : zRho) (a2 b2 : Nat), zInv n2 ξ2 ρ2 → 2 * (64 - i) ≤ a2 → 42 * (64 - i) ≤ b2 → Zw S (Zc S 40) 9 false 3 zk_L_law (fun r _ => r = some (.int 1)) (1405, [some (.retAddr 4), some (.ref 0), some (.ref 42), some (.int (nI (5 * i)))], [], (a2, b2), zWof n2 ξ2 ρ2)) : Zw S (Zc S 40) 9 false 3 zk_L_law (fun r _ => r = some (.int 1)) (818, [some (.retAddr 4), some (.ref 0), some (.ref 42), some (.int (nI (5 * i)))], [], (a, b), zWof n ξ ρ) := by
  obtain ⟨r, hc⟩ := p_worst S inv (S.2 (5 * i + 1))
  refine zr_aload_n 819 rfl rfl rfl trivial ?_
  refine zr_aload_n 820 rfl rfl rfl trivial ?_
  refine zr_iload_n 821 rfl rfl rfl ?_
  refine zr_iconst 822 (x := 1) rfl rfl (by decide) ?_
  refine zr_iadd 823 rfl rfl ?_
  rw [show nI (5 * i) + 1 = nI (5 * i + 1) from nI_add _ 1]
  refine zr_ialc 824 rfl rfl (by decide) (nI_clamp (by omega)) (show vp_in (nI (5 * i + 1)) S.1 from vp_in_nI (by omega) (by omega)) ?_
  refine zr_callv 827 (As := [_]) (u2 := (a, b)) rfl rfl rfl rfl rfl rfl rfl (Nat.le_of_ble_eq_true rfl) (Nat.le_of_ble_eq_true rfl) (Nat.le_of_ble_eq_true rfl) rfl hc rfl (fun v2 w2 h824z => ?_)
  obtain ⟨rfl, n1, ξ1, ρ1, rfl, hc6⟩ := h824z
  refine zr_aload_n 828 rfl rfl rfl trivial ?_
  refine zr_aload_n 829 rfl rfl rfl trivial ?_
  refine zr_iload_n 830 rfl rfl rfl ?_
  refine zr_iconst 831 (x := 1) rfl rfl (by decide) ?_
  refine zr_iadd 832 rfl rfl ?_
  rw [show nI (5 * i) + 1 = nI (5 * i + 1) from nI_add _ 1]
  refine zr_ialc 833 rfl rfl (by decide) (nI_clamp (by omega)) (show vp_in (nI (5 * i + 1)) S.1 from vp_in_nI (by omega) (by omega)) ?_
  refine zr_callv 836 (As := [_]) (u2 := (a, b)) rfl rfl rfl rfl rfl rfl rfl (Nat.le_of_ble_eq_true rfl) (Nat.le_of_ble_eq_true rfl) (Nat.le_of_ble_eq_true rfl) rfl hc6 rfl (fun v2 w2 h833z => ?_)
  obtain ⟨rfl, n2, ξ2, ρ2, rfl, inv2⟩ := h833z
  refine zr_icmp_eq 1405 839 rfl rfl (by decide) (fun c836z => ?_) (fun c836z => ?_)
  · exact kk n2 ξ2 ρ2 a b inv2 (by omega) (by omega)
  · exact absurd rfl c836z
set_option maxRecDepth 20000 in
set_option maxHeartbeats 1000000 in
theorem la_sooner {S : Nat × (Nat → Int32)} (hS : S.1 ≤ 320) {i n a b : Nat} {ξ : Nat → Nat → Int32} {ρ : zRho} (inv : zInv n ξ ρ) (hi : 5 * i + 5 ≤ S.1) (ha : 2 * (65 - i) ≤ a) (hb : 42 * (65 - i) ≤ b) (kk : ∀ (n2 : Nat) (ξ2 : Nat → Nat → Int32) (ρ2 : zRho) (a2 b2 : Nat), zInv n2 ξ2 ρ2 → 2 * (64 - i) ≤ a2 → 42 * (64 - i) ≤ b2 → Zw S (Zc S 40) 9 false 3 zk_L_law (fun r _ => r = some (.int 1)) (1405, [some (.retAddr 4), some (.ref 0), some (.ref 42), some (.int (nI (5 * i)))], [], (a2, b2), zWof n2 ξ2 ρ2)) : Zw S (Zc S 40) 9 false 3 zk_L_law (fun r _ => r = some (.int 1)) (841, [some (.retAddr 4), some (.ref 0), some (.ref 42), some (.int (nI (5 * i)))], [], (a, b), zWof n ξ ρ) := by
  obtain ⟨r, hc⟩ := p_sooner S inv
  refine zr_aload_n 842 rfl rfl rfl trivial ?_
  refine zr_callv 845 (As := []) (u2 := (a, b)) rfl rfl rfl rfl rfl rfl rfl (Nat.le_of_ble_eq_true rfl) (Nat.le_of_ble_eq_true rfl) (Nat.le_of_ble_eq_true rfl) rfl hc rfl (fun v2 w2 h842z => ?_)
  obtain ⟨rfl, n1, ξ1, ρ1, rfl, hc6⟩ := h842z
  refine zr_aload_n 846 rfl rfl rfl trivial ?_
  refine zr_callv 849 (As := []) (u2 := (a, b)) rfl rfl rfl rfl rfl rfl rfl (Nat.le_of_ble_eq_true rfl) (Nat.le_of_ble_eq_true rfl) (Nat.le_of_ble_eq_true rfl) rfl hc6 rfl (fun v2 w2 h846z => ?_)
  obtain ⟨rfl, n2, ξ2, ρ2, rfl, inv2⟩ := h846z
  refine zr_icmp_eq 1405 852 rfl rfl (by decide) (fun c849z => ?_) (fun c849z => ?_)
  · exact kk n2 ξ2 ρ2 a b inv2 (by omega) (by omega)
  · exact absurd rfl c849z
set_option maxRecDepth 20000 in
set_option maxHeartbeats 1000000 in
theorem la_seed {S : Nat × (Nat → Int32)} (hS : S.1 ≤ 320) {i n a b : Nat} {ξ : Nat → Nat → Int32} {ρ : zRho} (inv : zInv n ξ ρ) (hi : 5 * i + 5 ≤ S.1) (ha : 2 * (65 - i) ≤ a) (hb : 42 * (65 - i) ≤ b) (kk : ∀ (n2 : Nat) (ξ2 : Nat → Nat → Int32) (ρ2 : zRho) (a2 b2 : Nat), zInv n2 ξ2 ρ2 → 2 * (64 - i) ≤ a2 → 42 * (64 - i) ≤ b2 → Zw S (Zc S 40) 9 false 3 zk_L_law (fun r _ => r = some (.int 1)) (1405, [some (.retAddr 4), some (.ref 0), some (.ref 42), some (.int (nI (5 * i)))], [], (a2, b2), zWof n2 ξ2 ρ2)) : Zw S (Zc S 40) 9 false 3 zk_L_law (fun r _ => r = some (.int 1)) (854, [some (.retAddr 4), some (.ref 0), some (.ref 42), some (.int (nI (5 * i)))], [], (a, b), zWof n ξ ρ) := by
  obtain ⟨r, hc⟩ := p_seed S inv (S.2 (5 * i + 1))
  refine zr_aload_n 855 rfl rfl rfl trivial ?_
  refine zr_aload_n 856 rfl rfl rfl trivial ?_
  refine zr_iload_n 857 rfl rfl rfl ?_
  refine zr_iconst 858 (x := 1) rfl rfl (by decide) ?_
  refine zr_iadd 859 rfl rfl ?_
  rw [show nI (5 * i) + 1 = nI (5 * i + 1) from nI_add _ 1]
  refine zr_ialc 860 rfl rfl (by decide) (nI_clamp (by omega)) (show vp_in (nI (5 * i + 1)) S.1 from vp_in_nI (by omega) (by omega)) ?_
  refine zr_callv 863 (As := [_]) (u2 := (a, b)) rfl rfl rfl rfl rfl rfl rfl (Nat.le_of_ble_eq_true rfl) (Nat.le_of_ble_eq_true rfl) (Nat.le_of_ble_eq_true rfl) rfl hc rfl (fun v2 w2 h860z => ?_)
  obtain ⟨rfl, n1, ξ1, ρ1, rfl, hc6⟩ := h860z
  refine zr_aload_n 864 rfl rfl rfl trivial ?_
  refine zr_aload_n 865 rfl rfl rfl trivial ?_
  refine zr_iload_n 866 rfl rfl rfl ?_
  refine zr_iconst 867 (x := 1) rfl rfl (by decide) ?_
  refine zr_iadd 868 rfl rfl ?_
  rw [show nI (5 * i) + 1 = nI (5 * i + 1) from nI_add _ 1]
  refine zr_ialc 869 rfl rfl (by decide) (nI_clamp (by omega)) (show vp_in (nI (5 * i + 1)) S.1 from vp_in_nI (by omega) (by omega)) ?_
  refine zr_callv 872 (As := [_]) (u2 := (a, b)) rfl rfl rfl rfl rfl rfl rfl (Nat.le_of_ble_eq_true rfl) (Nat.le_of_ble_eq_true rfl) (Nat.le_of_ble_eq_true rfl) rfl hc6 rfl (fun v2 w2 h869z => ?_)
  obtain ⟨rfl, n2, ξ2, ρ2, rfl, inv2⟩ := h869z
  refine zr_icmp_eq 1405 875 rfl rfl (by decide) (fun c872z => ?_) (fun c872z => ?_)
  · exact kk n2 ξ2 ρ2 a b inv2 (by omega) (by omega)
  · exact absurd rfl c872z
set_option maxRecDepth 20000 in
set_option maxHeartbeats 1000000 in
theorem la_lot {S : Nat × (Nat → Int32)} (hS : S.1 ≤ 320) {i n a b : Nat} {ξ : Nat → Nat → Int32} {ρ : zRho} (inv : zInv n ξ ρ) (hi : 5 * i + 5 ≤ S.1) (ha : 2 * (65 - i) ≤ a) (hb : 42 * (65 - i) ≤ b) (kk : ∀ (n2 : Nat) (ξ2 : Nat → Nat → Int32) (ρ2 : zRho) (a2 b2 : Nat), zInv n2 ξ2 ρ2 → 2 * (64 - i) ≤ a2 → 42 * (64 - i) ≤ b2 → Zw S (Zc S 40) 9 false 3 zk_L_law (fun r _ => r = some (.int 1)) (1405, [some (.retAddr 4), some (.ref 0), some (.ref 42), some (.int (nI (5 * i)))], [], (a2, b2), zWof n2 ξ2 ρ2)) : Zw S (Zc S 40) 9 false 3 zk_L_law (fun r _ => r = some (.int 1)) (877, [some (.retAddr 4), some (.ref 0), some (.ref 42), some (.int (nI (5 * i)))], [], (a, b), zWof n ξ ρ) := by
  obtain ⟨r, hc⟩ := p_lot S inv (S.2 (5 * i + 1))
  refine zr_aload_n 878 rfl rfl rfl trivial ?_
  refine zr_aload_n 879 rfl rfl rfl trivial ?_
  refine zr_iload_n 880 rfl rfl rfl ?_
  refine zr_iconst 881 (x := 1) rfl rfl (by decide) ?_
  refine zr_iadd 882 rfl rfl ?_
  rw [show nI (5 * i) + 1 = nI (5 * i + 1) from nI_add _ 1]
  refine zr_ialc 883 rfl rfl (by decide) (nI_clamp (by omega)) (show vp_in (nI (5 * i + 1)) S.1 from vp_in_nI (by omega) (by omega)) ?_
  refine zr_callv 886 (As := [_]) (u2 := (a, b)) rfl rfl rfl rfl rfl rfl rfl (Nat.le_of_ble_eq_true rfl) (Nat.le_of_ble_eq_true rfl) (Nat.le_of_ble_eq_true rfl) rfl hc rfl (fun v2 w2 h883z => ?_)
  obtain ⟨rfl, n1, ξ1, ρ1, rfl, hc6⟩ := h883z
  refine zr_aload_n 887 rfl rfl rfl trivial ?_
  refine zr_aload_n 888 rfl rfl rfl trivial ?_
  refine zr_iload_n 889 rfl rfl rfl ?_
  refine zr_iconst 890 (x := 1) rfl rfl (by decide) ?_
  refine zr_iadd 891 rfl rfl ?_
  rw [show nI (5 * i) + 1 = nI (5 * i + 1) from nI_add _ 1]
  refine zr_ialc 892 rfl rfl (by decide) (nI_clamp (by omega)) (show vp_in (nI (5 * i + 1)) S.1 from vp_in_nI (by omega) (by omega)) ?_
  refine zr_callv 895 (As := [_]) (u2 := (a, b)) rfl rfl rfl rfl rfl rfl rfl (Nat.le_of_ble_eq_true rfl) (Nat.le_of_ble_eq_true rfl) (Nat.le_of_ble_eq_true rfl) rfl hc6 rfl (fun v2 w2 h892z => ?_)
  obtain ⟨rfl, n2, ξ2, ρ2, rfl, inv2⟩ := h892z
  refine zr_icmp_eq 1405 898 rfl rfl (by decide) (fun c895z => ?_) (fun c895z => ?_)
  · exact kk n2 ξ2 ρ2 a b inv2 (by omega) (by omega)
  · exact absurd rfl c895z
set_option maxRecDepth 20000 in
set_option maxHeartbeats 1000000 in
theorem la_prove {S : Nat × (Nat → Int32)} (hS : S.1 ≤ 320) {i n a b : Nat} {ξ : Nat → Nat → Int32} {ρ : zRho} (inv : zInv n ξ ρ) (hi : 5 * i + 5 ≤ S.1) (ha : 2 * (65 - i) ≤ a) (hb : 42 * (65 - i) ≤ b) (kk : ∀ (n2 : Nat) (ξ2 : Nat → Nat → Int32) (ρ2 : zRho) (a2 b2 : Nat), zInv n2 ξ2 ρ2 → 2 * (64 - i) ≤ a2 → 42 * (64 - i) ≤ b2 → Zw S (Zc S 40) 9 false 3 zk_L_law (fun r _ => r = some (.int 1)) (1405, [some (.retAddr 4), some (.ref 0), some (.ref 42), some (.int (nI (5 * i)))], [], (a2, b2), zWof n2 ξ2 ρ2)) : Zw S (Zc S 40) 9 false 3 zk_L_law (fun r _ => r = some (.int 1)) (900, [some (.retAddr 4), some (.ref 0), some (.ref 42), some (.int (nI (5 * i)))], [], (a, b), zWof n ξ ρ) := by
  obtain ⟨r, hc⟩ := p_prove S inv (S.2 (5 * i + 1)) (S.2 (5 * i + 2))
  refine zr_aload_n 901 rfl rfl rfl trivial ?_
  refine zr_aload_n 902 rfl rfl rfl trivial ?_
  refine zr_iload_n 903 rfl rfl rfl ?_
  refine zr_iconst 904 (x := 1) rfl rfl (by decide) ?_
  refine zr_iadd 905 rfl rfl ?_
  rw [show nI (5 * i) + 1 = nI (5 * i + 1) from nI_add _ 1]
  refine zr_ialc 906 rfl rfl (by decide) (nI_clamp (by omega)) (show vp_in (nI (5 * i + 1)) S.1 from vp_in_nI (by omega) (by omega)) ?_
  refine zr_aload_n 907 rfl rfl rfl trivial ?_
  refine zr_iload_n 908 rfl rfl rfl ?_
  refine zr_iconst 909 (x := 2) rfl rfl (by decide) ?_
  refine zr_iadd 910 rfl rfl ?_
  rw [show nI (5 * i) + 2 = nI (5 * i + 2) from nI_add _ 2]
  refine zr_ialc 911 rfl rfl (by decide) (nI_clamp (by omega)) (show vp_in (nI (5 * i + 2)) S.1 from vp_in_nI (by omega) (by omega)) ?_
  refine zr_callv 914 (As := [_, _]) (u2 := (a, b)) rfl rfl rfl rfl rfl rfl rfl (Nat.le_of_ble_eq_true rfl) (Nat.le_of_ble_eq_true rfl) (Nat.le_of_ble_eq_true rfl) rfl hc rfl (fun v2 w2 h911z => ?_)
  obtain ⟨rfl, n1, ξ1, ρ1, rfl, hc6⟩ := h911z
  refine zr_aload_n 915 rfl rfl rfl trivial ?_
  refine zr_aload_n 916 rfl rfl rfl trivial ?_
  refine zr_iload_n 917 rfl rfl rfl ?_
  refine zr_iconst 918 (x := 1) rfl rfl (by decide) ?_
  refine zr_iadd 919 rfl rfl ?_
  rw [show nI (5 * i) + 1 = nI (5 * i + 1) from nI_add _ 1]
  refine zr_ialc 920 rfl rfl (by decide) (nI_clamp (by omega)) (show vp_in (nI (5 * i + 1)) S.1 from vp_in_nI (by omega) (by omega)) ?_
  refine zr_aload_n 921 rfl rfl rfl trivial ?_
  refine zr_iload_n 922 rfl rfl rfl ?_
  refine zr_iconst 923 (x := 2) rfl rfl (by decide) ?_
  refine zr_iadd 924 rfl rfl ?_
  rw [show nI (5 * i) + 2 = nI (5 * i + 2) from nI_add _ 2]
  refine zr_ialc 925 rfl rfl (by decide) (nI_clamp (by omega)) (show vp_in (nI (5 * i + 2)) S.1 from vp_in_nI (by omega) (by omega)) ?_
  refine zr_callv 928 (As := [_, _]) (u2 := (a, b)) rfl rfl rfl rfl rfl rfl rfl (Nat.le_of_ble_eq_true rfl) (Nat.le_of_ble_eq_true rfl) (Nat.le_of_ble_eq_true rfl) rfl hc6 rfl (fun v2 w2 h925z => ?_)
  obtain ⟨rfl, n2, ξ2, ρ2, rfl, inv2⟩ := h925z
  refine zr_icmp_eq 1405 931 rfl rfl (by decide) (fun c928z => ?_) (fun c928z => ?_)
  · exact kk n2 ξ2 ρ2 a b inv2 (by omega) (by omega)
  · exact absurd rfl c928z
set_option maxRecDepth 20000 in
set_option maxHeartbeats 1000000 in
theorem la_row {S : Nat × (Nat → Int32)} (hS : S.1 ≤ 320) {i n a b : Nat} {ξ : Nat → Nat → Int32} {ρ : zRho} (inv : zInv n ξ ρ) (hi : 5 * i + 5 ≤ S.1) (ha : 2 * (65 - i) ≤ a) (hb : 42 * (65 - i) ≤ b) (kk : ∀ (n2 : Nat) (ξ2 : Nat → Nat → Int32) (ρ2 : zRho) (a2 b2 : Nat), zInv n2 ξ2 ρ2 → 2 * (64 - i) ≤ a2 → 42 * (64 - i) ≤ b2 → Zw S (Zc S 40) 9 false 3 zk_L_law (fun r _ => r = some (.int 1)) (1405, [some (.retAddr 4), some (.ref 0), some (.ref 42), some (.int (nI (5 * i)))], [], (a2, b2), zWof n2 ξ2 ρ2)) : Zw S (Zc S 40) 9 false 3 zk_L_law (fun r _ => r = some (.int 1)) (933, [some (.retAddr 4), some (.ref 0), some (.ref 42), some (.int (nI (5 * i)))], [], (a, b), zWof n ξ ρ) := by
  obtain ⟨r, hc⟩ := p_row S inv (S.2 (5 * i + 1)) (S.2 (5 * i + 2))
  refine zr_aload_n 934 rfl rfl rfl trivial ?_
  refine zr_aload_n 935 rfl rfl rfl trivial ?_
  refine zr_iload_n 936 rfl rfl rfl ?_
  refine zr_iconst 937 (x := 1) rfl rfl (by decide) ?_
  refine zr_iadd 938 rfl rfl ?_
  rw [show nI (5 * i) + 1 = nI (5 * i + 1) from nI_add _ 1]
  refine zr_ialc 939 rfl rfl (by decide) (nI_clamp (by omega)) (show vp_in (nI (5 * i + 1)) S.1 from vp_in_nI (by omega) (by omega)) ?_
  refine zr_aload_n 940 rfl rfl rfl trivial ?_
  refine zr_iload_n 941 rfl rfl rfl ?_
  refine zr_iconst 942 (x := 2) rfl rfl (by decide) ?_
  refine zr_iadd 943 rfl rfl ?_
  rw [show nI (5 * i) + 2 = nI (5 * i + 2) from nI_add _ 2]
  refine zr_ialc 944 rfl rfl (by decide) (nI_clamp (by omega)) (show vp_in (nI (5 * i + 2)) S.1 from vp_in_nI (by omega) (by omega)) ?_
  refine zr_callv 947 (As := [_, _]) (u2 := (a, b)) rfl rfl rfl rfl rfl rfl rfl (Nat.le_of_ble_eq_true rfl) (Nat.le_of_ble_eq_true rfl) (Nat.le_of_ble_eq_true rfl) rfl hc rfl (fun v2 w2 h944z => ?_)
  obtain ⟨rfl, n1, ξ1, ρ1, rfl, hc6⟩ := h944z
  refine zr_aload_n 948 rfl rfl rfl trivial ?_
  refine zr_aload_n 949 rfl rfl rfl trivial ?_
  refine zr_iload_n 950 rfl rfl rfl ?_
  refine zr_iconst 951 (x := 1) rfl rfl (by decide) ?_
  refine zr_iadd 952 rfl rfl ?_
  rw [show nI (5 * i) + 1 = nI (5 * i + 1) from nI_add _ 1]
  refine zr_ialc 953 rfl rfl (by decide) (nI_clamp (by omega)) (show vp_in (nI (5 * i + 1)) S.1 from vp_in_nI (by omega) (by omega)) ?_
  refine zr_aload_n 954 rfl rfl rfl trivial ?_
  refine zr_iload_n 955 rfl rfl rfl ?_
  refine zr_iconst 956 (x := 2) rfl rfl (by decide) ?_
  refine zr_iadd 957 rfl rfl ?_
  rw [show nI (5 * i) + 2 = nI (5 * i + 2) from nI_add _ 2]
  refine zr_ialc 958 rfl rfl (by decide) (nI_clamp (by omega)) (show vp_in (nI (5 * i + 2)) S.1 from vp_in_nI (by omega) (by omega)) ?_
  refine zr_callv 961 (As := [_, _]) (u2 := (a, b)) rfl rfl rfl rfl rfl rfl rfl (Nat.le_of_ble_eq_true rfl) (Nat.le_of_ble_eq_true rfl) (Nat.le_of_ble_eq_true rfl) rfl hc6 rfl (fun v2 w2 h958z => ?_)
  obtain ⟨rfl, n2, ξ2, ρ2, rfl, inv2⟩ := h958z
  refine zr_icmp_eq 1405 964 rfl rfl (by decide) (fun c961z => ?_) (fun c961z => ?_)
  · exact kk n2 ξ2 ρ2 a b inv2 (by omega) (by omega)
  · exact absurd rfl c961z
set_option maxRecDepth 20000 in
set_option maxHeartbeats 1000000 in
theorem la_alterRow {S : Nat × (Nat → Int32)} (hS : S.1 ≤ 320) {i n a b : Nat} {ξ : Nat → Nat → Int32} {ρ : zRho} (inv : zInv n ξ ρ) (hi : 5 * i + 5 ≤ S.1) (ha : 2 * (65 - i) ≤ a) (hb : 42 * (65 - i) ≤ b) (kk : ∀ (n2 : Nat) (ξ2 : Nat → Nat → Int32) (ρ2 : zRho) (a2 b2 : Nat), zInv n2 ξ2 ρ2 → 2 * (64 - i) ≤ a2 → 42 * (64 - i) ≤ b2 → Zw S (Zc S 40) 9 false 3 zk_L_law (fun r _ => r = some (.int 1)) (1405, [some (.retAddr 4), some (.ref 0), some (.ref 42), some (.int (nI (5 * i)))], [], (a2, b2), zWof n2 ξ2 ρ2)) : Zw S (Zc S 40) 9 false 3 zk_L_law (fun r _ => r = some (.int 1)) (966, [some (.retAddr 4), some (.ref 0), some (.ref 42), some (.int (nI (5 * i)))], [], (a, b), zWof n ξ ρ) := by
  obtain ⟨r, hc⟩ := p_alterRow S inv (S.2 (5 * i + 1)) (S.2 (5 * i + 2)) (S.2 (5 * i + 3))
  refine zr_aload_n 967 rfl rfl rfl trivial ?_
  refine zr_aload_n 968 rfl rfl rfl trivial ?_
  refine zr_iload_n 969 rfl rfl rfl ?_
  refine zr_iconst 970 (x := 1) rfl rfl (by decide) ?_
  refine zr_iadd 971 rfl rfl ?_
  rw [show nI (5 * i) + 1 = nI (5 * i + 1) from nI_add _ 1]
  refine zr_ialc 972 rfl rfl (by decide) (nI_clamp (by omega)) (show vp_in (nI (5 * i + 1)) S.1 from vp_in_nI (by omega) (by omega)) ?_
  refine zr_aload_n 973 rfl rfl rfl trivial ?_
  refine zr_iload_n 974 rfl rfl rfl ?_
  refine zr_iconst 975 (x := 2) rfl rfl (by decide) ?_
  refine zr_iadd 976 rfl rfl ?_
  rw [show nI (5 * i) + 2 = nI (5 * i + 2) from nI_add _ 2]
  refine zr_ialc 977 rfl rfl (by decide) (nI_clamp (by omega)) (show vp_in (nI (5 * i + 2)) S.1 from vp_in_nI (by omega) (by omega)) ?_
  refine zr_aload_n 978 rfl rfl rfl trivial ?_
  refine zr_iload_n 979 rfl rfl rfl ?_
  refine zr_iconst 980 (x := 3) rfl rfl (by decide) ?_
  refine zr_iadd 981 rfl rfl ?_
  rw [show nI (5 * i) + 3 = nI (5 * i + 3) from nI_add _ 3]
  refine zr_ialc 982 rfl rfl (by decide) (nI_clamp (by omega)) (show vp_in (nI (5 * i + 3)) S.1 from vp_in_nI (by omega) (by omega)) ?_
  refine zr_callv 985 (As := [_, _, _]) (u2 := (a, b)) rfl rfl rfl rfl rfl rfl rfl (Nat.le_of_ble_eq_true rfl) (Nat.le_of_ble_eq_true rfl) (Nat.le_of_ble_eq_true rfl) rfl hc rfl (fun v2 w2 h982z => ?_)
  obtain ⟨rfl, n1, ξ1, ρ1, rfl, hc6⟩ := h982z
  refine zr_aload_n 986 rfl rfl rfl trivial ?_
  refine zr_aload_n 987 rfl rfl rfl trivial ?_
  refine zr_iload_n 988 rfl rfl rfl ?_
  refine zr_iconst 989 (x := 1) rfl rfl (by decide) ?_
  refine zr_iadd 990 rfl rfl ?_
  rw [show nI (5 * i) + 1 = nI (5 * i + 1) from nI_add _ 1]
  refine zr_ialc 991 rfl rfl (by decide) (nI_clamp (by omega)) (show vp_in (nI (5 * i + 1)) S.1 from vp_in_nI (by omega) (by omega)) ?_
  refine zr_aload_n 992 rfl rfl rfl trivial ?_
  refine zr_iload_n 993 rfl rfl rfl ?_
  refine zr_iconst 994 (x := 2) rfl rfl (by decide) ?_
  refine zr_iadd 995 rfl rfl ?_
  rw [show nI (5 * i) + 2 = nI (5 * i + 2) from nI_add _ 2]
  refine zr_ialc 996 rfl rfl (by decide) (nI_clamp (by omega)) (show vp_in (nI (5 * i + 2)) S.1 from vp_in_nI (by omega) (by omega)) ?_
  refine zr_aload_n 997 rfl rfl rfl trivial ?_
  refine zr_iload_n 998 rfl rfl rfl ?_
  refine zr_iconst 999 (x := 3) rfl rfl (by decide) ?_
  refine zr_iadd 1000 rfl rfl ?_
  rw [show nI (5 * i) + 3 = nI (5 * i + 3) from nI_add _ 3]
  refine zr_ialc 1001 rfl rfl (by decide) (nI_clamp (by omega)) (show vp_in (nI (5 * i + 3)) S.1 from vp_in_nI (by omega) (by omega)) ?_
  refine zr_callv 1004 (As := [_, _, _]) (u2 := (a, b)) rfl rfl rfl rfl rfl rfl rfl (Nat.le_of_ble_eq_true rfl) (Nat.le_of_ble_eq_true rfl) (Nat.le_of_ble_eq_true rfl) rfl hc6 rfl (fun v2 w2 h1001z => ?_)
  obtain ⟨rfl, n2, ξ2, ρ2, rfl, inv2⟩ := h1001z
  refine zr_icmp_eq 1405 1007 rfl rfl (by decide) (fun c1004z => ?_) (fun c1004z => ?_)
  · exact kk n2 ξ2 ρ2 a b inv2 (by omega) (by omega)
  · exact absurd rfl c1004z
set_option maxRecDepth 20000 in
set_option maxHeartbeats 1000000 in
theorem la_judge {S : Nat × (Nat → Int32)} (hS : S.1 ≤ 320) {i n a b : Nat} {ξ : Nat → Nat → Int32} {ρ : zRho} (inv : zInv n ξ ρ) (hi : 5 * i + 5 ≤ S.1) (ha : 2 * (65 - i) ≤ a) (hb : 42 * (65 - i) ≤ b) (kk : ∀ (n2 : Nat) (ξ2 : Nat → Nat → Int32) (ρ2 : zRho) (a2 b2 : Nat), zInv n2 ξ2 ρ2 → 2 * (64 - i) ≤ a2 → 42 * (64 - i) ≤ b2 → Zw S (Zc S 40) 9 false 3 zk_L_law (fun r _ => r = some (.int 1)) (1405, [some (.retAddr 4), some (.ref 0), some (.ref 42), some (.int (nI (5 * i)))], [], (a2, b2), zWof n2 ξ2 ρ2)) : Zw S (Zc S 40) 9 false 3 zk_L_law (fun r _ => r = some (.int 1)) (1009, [some (.retAddr 4), some (.ref 0), some (.ref 42), some (.int (nI (5 * i)))], [], (a, b), zWof n ξ ρ) := by
  obtain ⟨r, hc⟩ := p_judge S inv (S.2 (5 * i + 1))
  refine zr_aload_n 1010 rfl rfl rfl trivial ?_
  refine zr_aload_n 1011 rfl rfl rfl trivial ?_
  refine zr_iload_n 1012 rfl rfl rfl ?_
  refine zr_iconst 1013 (x := 1) rfl rfl (by decide) ?_
  refine zr_iadd 1014 rfl rfl ?_
  rw [show nI (5 * i) + 1 = nI (5 * i + 1) from nI_add _ 1]
  refine zr_ialc 1015 rfl rfl (by decide) (nI_clamp (by omega)) (show vp_in (nI (5 * i + 1)) S.1 from vp_in_nI (by omega) (by omega)) ?_
  refine zr_callv 1018 (As := [_]) (u2 := (a, b)) rfl rfl rfl rfl rfl rfl rfl (Nat.le_of_ble_eq_true rfl) (Nat.le_of_ble_eq_true rfl) (Nat.le_of_ble_eq_true rfl) rfl hc rfl (fun v2 w2 h1015z => ?_)
  obtain ⟨rfl, n1, ξ1, ρ1, rfl, hc6⟩ := h1015z
  refine zr_aload_n 1019 rfl rfl rfl trivial ?_
  refine zr_aload_n 1020 rfl rfl rfl trivial ?_
  refine zr_iload_n 1021 rfl rfl rfl ?_
  refine zr_iconst 1022 (x := 1) rfl rfl (by decide) ?_
  refine zr_iadd 1023 rfl rfl ?_
  rw [show nI (5 * i) + 1 = nI (5 * i + 1) from nI_add _ 1]
  refine zr_ialc 1024 rfl rfl (by decide) (nI_clamp (by omega)) (show vp_in (nI (5 * i + 1)) S.1 from vp_in_nI (by omega) (by omega)) ?_
  refine zr_callv 1027 (As := [_]) (u2 := (a, b)) rfl rfl rfl rfl rfl rfl rfl (Nat.le_of_ble_eq_true rfl) (Nat.le_of_ble_eq_true rfl) (Nat.le_of_ble_eq_true rfl) rfl hc6 rfl (fun v2 w2 h1024z => ?_)
  obtain ⟨rfl, n2, ξ2, ρ2, rfl, inv2⟩ := h1024z
  refine zr_icmp_eq 1405 1030 rfl rfl (by decide) (fun c1027z => ?_) (fun c1027z => ?_)
  · exact kk n2 ξ2 ρ2 a b inv2 (by omega) (by omega)
  · exact absurd rfl c1027z
set_option maxRecDepth 20000 in
set_option maxHeartbeats 1000000 in
theorem la_minds {S : Nat × (Nat → Int32)} (hS : S.1 ≤ 320) {i n a b : Nat} {ξ : Nat → Nat → Int32} {ρ : zRho} (inv : zInv n ξ ρ) (hi : 5 * i + 5 ≤ S.1) (ha : 2 * (65 - i) ≤ a) (hb : 42 * (65 - i) ≤ b) (kk : ∀ (n2 : Nat) (ξ2 : Nat → Nat → Int32) (ρ2 : zRho) (a2 b2 : Nat), zInv n2 ξ2 ρ2 → 2 * (64 - i) ≤ a2 → 42 * (64 - i) ≤ b2 → Zw S (Zc S 40) 9 false 3 zk_L_law (fun r _ => r = some (.int 1)) (1405, [some (.retAddr 4), some (.ref 0), some (.ref 42), some (.int (nI (5 * i)))], [], (a2, b2), zWof n2 ξ2 ρ2)) : Zw S (Zc S 40) 9 false 3 zk_L_law (fun r _ => r = some (.int 1)) (1032, [some (.retAddr 4), some (.ref 0), some (.ref 42), some (.int (nI (5 * i)))], [], (a, b), zWof n ξ ρ) := by
  obtain ⟨r, hc⟩ := p_minds S inv (S.2 (5 * i + 1)) (S.2 (5 * i + 2)) (S.2 (5 * i + 3)) (S.2 (5 * i + 4))
  refine zr_aload_n 1033 rfl rfl rfl trivial ?_
  refine zr_aload_n 1034 rfl rfl rfl trivial ?_
  refine zr_iload_n 1035 rfl rfl rfl ?_
  refine zr_iconst 1036 (x := 1) rfl rfl (by decide) ?_
  refine zr_iadd 1037 rfl rfl ?_
  rw [show nI (5 * i) + 1 = nI (5 * i + 1) from nI_add _ 1]
  refine zr_ialc 1038 rfl rfl (by decide) (nI_clamp (by omega)) (show vp_in (nI (5 * i + 1)) S.1 from vp_in_nI (by omega) (by omega)) ?_
  refine zr_aload_n 1039 rfl rfl rfl trivial ?_
  refine zr_iload_n 1040 rfl rfl rfl ?_
  refine zr_iconst 1041 (x := 2) rfl rfl (by decide) ?_
  refine zr_iadd 1042 rfl rfl ?_
  rw [show nI (5 * i) + 2 = nI (5 * i + 2) from nI_add _ 2]
  refine zr_ialc 1043 rfl rfl (by decide) (nI_clamp (by omega)) (show vp_in (nI (5 * i + 2)) S.1 from vp_in_nI (by omega) (by omega)) ?_
  refine zr_aload_n 1044 rfl rfl rfl trivial ?_
  refine zr_iload_n 1045 rfl rfl rfl ?_
  refine zr_iconst 1046 (x := 3) rfl rfl (by decide) ?_
  refine zr_iadd 1047 rfl rfl ?_
  rw [show nI (5 * i) + 3 = nI (5 * i + 3) from nI_add _ 3]
  refine zr_ialc 1048 rfl rfl (by decide) (nI_clamp (by omega)) (show vp_in (nI (5 * i + 3)) S.1 from vp_in_nI (by omega) (by omega)) ?_
  refine zr_aload_n 1049 rfl rfl rfl trivial ?_
  refine zr_iload_n 1050 rfl rfl rfl ?_
  refine zr_iconst 1051 (x := 4) rfl rfl (by decide) ?_
  refine zr_iadd 1052 rfl rfl ?_
  rw [show nI (5 * i) + 4 = nI (5 * i + 4) from nI_add _ 4]
  refine zr_ialc 1053 rfl rfl (by decide) (nI_clamp (by omega)) (show vp_in (nI (5 * i + 4)) S.1 from vp_in_nI (by omega) (by omega)) ?_
  refine zr_callv 1056 (As := [_, _, _, _]) (u2 := (a, b)) rfl rfl rfl rfl rfl rfl rfl (Nat.le_of_ble_eq_true rfl) (Nat.le_of_ble_eq_true rfl) (Nat.le_of_ble_eq_true rfl) rfl hc rfl (fun v2 w2 h1053z => ?_)
  obtain ⟨rfl, n1, ξ1, ρ1, rfl, hc6⟩ := h1053z
  refine zr_aload_n 1057 rfl rfl rfl trivial ?_
  refine zr_aload_n 1058 rfl rfl rfl trivial ?_
  refine zr_iload_n 1059 rfl rfl rfl ?_
  refine zr_iconst 1060 (x := 1) rfl rfl (by decide) ?_
  refine zr_iadd 1061 rfl rfl ?_
  rw [show nI (5 * i) + 1 = nI (5 * i + 1) from nI_add _ 1]
  refine zr_ialc 1062 rfl rfl (by decide) (nI_clamp (by omega)) (show vp_in (nI (5 * i + 1)) S.1 from vp_in_nI (by omega) (by omega)) ?_
  refine zr_aload_n 1063 rfl rfl rfl trivial ?_
  refine zr_iload_n 1064 rfl rfl rfl ?_
  refine zr_iconst 1065 (x := 2) rfl rfl (by decide) ?_
  refine zr_iadd 1066 rfl rfl ?_
  rw [show nI (5 * i) + 2 = nI (5 * i + 2) from nI_add _ 2]
  refine zr_ialc 1067 rfl rfl (by decide) (nI_clamp (by omega)) (show vp_in (nI (5 * i + 2)) S.1 from vp_in_nI (by omega) (by omega)) ?_
  refine zr_aload_n 1068 rfl rfl rfl trivial ?_
  refine zr_iload_n 1069 rfl rfl rfl ?_
  refine zr_iconst 1070 (x := 3) rfl rfl (by decide) ?_
  refine zr_iadd 1071 rfl rfl ?_
  rw [show nI (5 * i) + 3 = nI (5 * i + 3) from nI_add _ 3]
  refine zr_ialc 1072 rfl rfl (by decide) (nI_clamp (by omega)) (show vp_in (nI (5 * i + 3)) S.1 from vp_in_nI (by omega) (by omega)) ?_
  refine zr_aload_n 1073 rfl rfl rfl trivial ?_
  refine zr_iload_n 1074 rfl rfl rfl ?_
  refine zr_iconst 1075 (x := 4) rfl rfl (by decide) ?_
  refine zr_iadd 1076 rfl rfl ?_
  rw [show nI (5 * i) + 4 = nI (5 * i + 4) from nI_add _ 4]
  refine zr_ialc 1077 rfl rfl (by decide) (nI_clamp (by omega)) (show vp_in (nI (5 * i + 4)) S.1 from vp_in_nI (by omega) (by omega)) ?_
  refine zr_callv 1080 (As := [_, _, _, _]) (u2 := (a, b)) rfl rfl rfl rfl rfl rfl rfl (Nat.le_of_ble_eq_true rfl) (Nat.le_of_ble_eq_true rfl) (Nat.le_of_ble_eq_true rfl) rfl hc6 rfl (fun v2 w2 h1077z => ?_)
  obtain ⟨rfl, n2, ξ2, ρ2, rfl, inv2⟩ := h1077z
  refine zr_icmp_eq 1405 1083 rfl rfl (by decide) (fun c1080z => ?_) (fun c1080z => ?_)
  · exact kk n2 ξ2 ρ2 a b inv2 (by omega) (by omega)
  · exact absurd rfl c1080z
set_option maxRecDepth 20000 in
set_option maxHeartbeats 1000000 in
theorem la_sheet {S : Nat × (Nat → Int32)} (hS : S.1 ≤ 320) {i n a b : Nat} {ξ : Nat → Nat → Int32} {ρ : zRho} (inv : zInv n ξ ρ) (hi : 5 * i + 5 ≤ S.1) (ha : 2 * (65 - i) ≤ a) (hb : 42 * (65 - i) ≤ b) (kk : ∀ (n2 : Nat) (ξ2 : Nat → Nat → Int32) (ρ2 : zRho) (a2 b2 : Nat), zInv n2 ξ2 ρ2 → 2 * (64 - i) ≤ a2 → 42 * (64 - i) ≤ b2 → Zw S (Zc S 40) 9 false 3 zk_L_law (fun r _ => r = some (.int 1)) (1405, [some (.retAddr 4), some (.ref 0), some (.ref 42), some (.int (nI (5 * i)))], [], (a2, b2), zWof n2 ξ2 ρ2)) : Zw S (Zc S 40) 9 false 3 zk_L_law (fun r _ => r = some (.int 1)) (1085, [some (.retAddr 4), some (.ref 0), some (.ref 42), some (.int (nI (5 * i)))], [], (a, b), zWof n ξ ρ) := by
  obtain ⟨r, hc⟩ := p_sheet S inv (S.2 (5 * i + 1)) (S.2 (5 * i + 2)) (S.2 (5 * i + 3))
  refine zr_aload_n 1086 rfl rfl rfl trivial ?_
  refine zr_aload_n 1087 rfl rfl rfl trivial ?_
  refine zr_iload_n 1088 rfl rfl rfl ?_
  refine zr_iconst 1089 (x := 1) rfl rfl (by decide) ?_
  refine zr_iadd 1090 rfl rfl ?_
  rw [show nI (5 * i) + 1 = nI (5 * i + 1) from nI_add _ 1]
  refine zr_ialc 1091 rfl rfl (by decide) (nI_clamp (by omega)) (show vp_in (nI (5 * i + 1)) S.1 from vp_in_nI (by omega) (by omega)) ?_
  refine zr_aload_n 1092 rfl rfl rfl trivial ?_
  refine zr_iload_n 1093 rfl rfl rfl ?_
  refine zr_iconst 1094 (x := 2) rfl rfl (by decide) ?_
  refine zr_iadd 1095 rfl rfl ?_
  rw [show nI (5 * i) + 2 = nI (5 * i + 2) from nI_add _ 2]
  refine zr_ialc 1096 rfl rfl (by decide) (nI_clamp (by omega)) (show vp_in (nI (5 * i + 2)) S.1 from vp_in_nI (by omega) (by omega)) ?_
  refine zr_aload_n 1097 rfl rfl rfl trivial ?_
  refine zr_iload_n 1098 rfl rfl rfl ?_
  refine zr_iconst 1099 (x := 3) rfl rfl (by decide) ?_
  refine zr_iadd 1100 rfl rfl ?_
  rw [show nI (5 * i) + 3 = nI (5 * i + 3) from nI_add _ 3]
  refine zr_ialc 1101 rfl rfl (by decide) (nI_clamp (by omega)) (show vp_in (nI (5 * i + 3)) S.1 from vp_in_nI (by omega) (by omega)) ?_
  refine zr_callv 1104 (As := [_, _, _]) (u2 := (a - 2, b - 42)) rfl rfl rfl rfl rfl rfl rfl (Nat.le_of_ble_eq_true rfl) (show 2 ≤ a by omega) (show 42 ≤ b by omega) rfl hc rfl (fun v2 w2 h1101z => ?_)
  obtain ⟨rfl, n1, ξ1, ρ1, rfl, hc6⟩ := h1101z
  refine zr_aload_n 1105 rfl rfl rfl trivial ?_
  refine zr_aload_n 1106 rfl rfl rfl trivial ?_
  refine zr_iload_n 1107 rfl rfl rfl ?_
  refine zr_iconst 1108 (x := 1) rfl rfl (by decide) ?_
  refine zr_iadd 1109 rfl rfl ?_
  rw [show nI (5 * i) + 1 = nI (5 * i + 1) from nI_add _ 1]
  refine zr_ialc 1110 rfl rfl (by decide) (nI_clamp (by omega)) (show vp_in (nI (5 * i + 1)) S.1 from vp_in_nI (by omega) (by omega)) ?_
  refine zr_aload_n 1111 rfl rfl rfl trivial ?_
  refine zr_iload_n 1112 rfl rfl rfl ?_
  refine zr_iconst 1113 (x := 2) rfl rfl (by decide) ?_
  refine zr_iadd 1114 rfl rfl ?_
  rw [show nI (5 * i) + 2 = nI (5 * i + 2) from nI_add _ 2]
  refine zr_ialc 1115 rfl rfl (by decide) (nI_clamp (by omega)) (show vp_in (nI (5 * i + 2)) S.1 from vp_in_nI (by omega) (by omega)) ?_
  refine zr_aload_n 1116 rfl rfl rfl trivial ?_
  refine zr_iload_n 1117 rfl rfl rfl ?_
  refine zr_iconst 1118 (x := 3) rfl rfl (by decide) ?_
  refine zr_iadd 1119 rfl rfl ?_
  rw [show nI (5 * i) + 3 = nI (5 * i + 3) from nI_add _ 3]
  refine zr_ialc 1120 rfl rfl (by decide) (nI_clamp (by omega)) (show vp_in (nI (5 * i + 3)) S.1 from vp_in_nI (by omega) (by omega)) ?_
  refine zr_callv 1123 (As := [_, _, _]) (u2 := (a - 2, b - 42)) rfl rfl rfl rfl rfl rfl rfl (Nat.le_of_ble_eq_true rfl) (Nat.le_of_ble_eq_true rfl) (Nat.le_of_ble_eq_true rfl) rfl hc6 rfl (fun v2 w2 h1120z => ?_)
  obtain ⟨rfl, n2, ξ2, ρ2, rfl, inv2⟩ := h1120z
  refine zr_icmp_eq 1405 1126 rfl rfl (by decide) (fun c1123z => ?_) (fun c1123z => ?_)
  · exact kk n2 ξ2 ρ2 (a - 2) (b - 42) inv2 (by omega) (by omega)
  · exact absurd rfl c1123z
set_option maxRecDepth 20000 in
set_option maxHeartbeats 1000000 in
theorem la_put {S : Nat × (Nat → Int32)} (hS : S.1 ≤ 320) {i n a b : Nat} {ξ : Nat → Nat → Int32} {ρ : zRho} (inv : zInv n ξ ρ) (hi : 5 * i + 5 ≤ S.1) (ha : 2 * (65 - i) ≤ a) (hb : 42 * (65 - i) ≤ b) (kk : ∀ (n2 : Nat) (ξ2 : Nat → Nat → Int32) (ρ2 : zRho) (a2 b2 : Nat), zInv n2 ξ2 ρ2 → 2 * (64 - i) ≤ a2 → 42 * (64 - i) ≤ b2 → Zw S (Zc S 40) 9 false 3 zk_L_law (fun r _ => r = some (.int 1)) (1405, [some (.retAddr 4), some (.ref 0), some (.ref 42), some (.int (nI (5 * i)))], [], (a2, b2), zWof n2 ξ2 ρ2)) : Zw S (Zc S 40) 9 false 3 zk_L_law (fun r _ => r = some (.int 1)) (1128, [some (.retAddr 4), some (.ref 0), some (.ref 42), some (.int (nI (5 * i)))], [], (a, b), zWof n ξ ρ) := by
  obtain ⟨r, hc⟩ := p_put S inv (S.2 (5 * i + 1)) (S.2 (5 * i + 2)) (S.2 (5 * i + 3))
  refine zr_aload_n 1129 rfl rfl rfl trivial ?_
  refine zr_aload_n 1130 rfl rfl rfl trivial ?_
  refine zr_iload_n 1131 rfl rfl rfl ?_
  refine zr_iconst 1132 (x := 1) rfl rfl (by decide) ?_
  refine zr_iadd 1133 rfl rfl ?_
  rw [show nI (5 * i) + 1 = nI (5 * i + 1) from nI_add _ 1]
  refine zr_ialc 1134 rfl rfl (by decide) (nI_clamp (by omega)) (show vp_in (nI (5 * i + 1)) S.1 from vp_in_nI (by omega) (by omega)) ?_
  refine zr_aload_n 1135 rfl rfl rfl trivial ?_
  refine zr_iload_n 1136 rfl rfl rfl ?_
  refine zr_iconst 1137 (x := 2) rfl rfl (by decide) ?_
  refine zr_iadd 1138 rfl rfl ?_
  rw [show nI (5 * i) + 2 = nI (5 * i + 2) from nI_add _ 2]
  refine zr_ialc 1139 rfl rfl (by decide) (nI_clamp (by omega)) (show vp_in (nI (5 * i + 2)) S.1 from vp_in_nI (by omega) (by omega)) ?_
  refine zr_aload_n 1140 rfl rfl rfl trivial ?_
  refine zr_iload_n 1141 rfl rfl rfl ?_
  refine zr_iconst 1142 (x := 3) rfl rfl (by decide) ?_
  refine zr_iadd 1143 rfl rfl ?_
  rw [show nI (5 * i) + 3 = nI (5 * i + 3) from nI_add _ 3]
  refine zr_ialc 1144 rfl rfl (by decide) (nI_clamp (by omega)) (show vp_in (nI (5 * i + 3)) S.1 from vp_in_nI (by omega) (by omega)) ?_
  refine zr_callv 1147 (As := [_, _, _]) (u2 := (a, b)) rfl rfl rfl rfl rfl rfl rfl (Nat.le_of_ble_eq_true rfl) (Nat.le_of_ble_eq_true rfl) (Nat.le_of_ble_eq_true rfl) rfl hc rfl (fun v2 w2 h1144z => ?_)
  obtain ⟨rfl, n1, ξ1, ρ1, rfl, hc6⟩ := h1144z
  refine zr_aload_n 1148 rfl rfl rfl trivial ?_
  refine zr_aload_n 1149 rfl rfl rfl trivial ?_
  refine zr_iload_n 1150 rfl rfl rfl ?_
  refine zr_iconst 1151 (x := 1) rfl rfl (by decide) ?_
  refine zr_iadd 1152 rfl rfl ?_
  rw [show nI (5 * i) + 1 = nI (5 * i + 1) from nI_add _ 1]
  refine zr_ialc 1153 rfl rfl (by decide) (nI_clamp (by omega)) (show vp_in (nI (5 * i + 1)) S.1 from vp_in_nI (by omega) (by omega)) ?_
  refine zr_aload_n 1154 rfl rfl rfl trivial ?_
  refine zr_iload_n 1155 rfl rfl rfl ?_
  refine zr_iconst 1156 (x := 2) rfl rfl (by decide) ?_
  refine zr_iadd 1157 rfl rfl ?_
  rw [show nI (5 * i) + 2 = nI (5 * i + 2) from nI_add _ 2]
  refine zr_ialc 1158 rfl rfl (by decide) (nI_clamp (by omega)) (show vp_in (nI (5 * i + 2)) S.1 from vp_in_nI (by omega) (by omega)) ?_
  refine zr_aload_n 1159 rfl rfl rfl trivial ?_
  refine zr_iload_n 1160 rfl rfl rfl ?_
  refine zr_iconst 1161 (x := 3) rfl rfl (by decide) ?_
  refine zr_iadd 1162 rfl rfl ?_
  rw [show nI (5 * i) + 3 = nI (5 * i + 3) from nI_add _ 3]
  refine zr_ialc 1163 rfl rfl (by decide) (nI_clamp (by omega)) (show vp_in (nI (5 * i + 3)) S.1 from vp_in_nI (by omega) (by omega)) ?_
  refine zr_callv 1166 (As := [_, _, _]) (u2 := (a, b)) rfl rfl rfl rfl rfl rfl rfl (Nat.le_of_ble_eq_true rfl) (Nat.le_of_ble_eq_true rfl) (Nat.le_of_ble_eq_true rfl) rfl hc6 rfl (fun v2 w2 h1163z => ?_)
  obtain ⟨rfl, n2, ξ2, ρ2, rfl, inv2⟩ := h1163z
  refine zr_icmp_eq 1405 1169 rfl rfl (by decide) (fun c1166z => ?_) (fun c1166z => ?_)
  · exact kk n2 ξ2 ρ2 a b inv2 (by omega) (by omega)
  · exact absurd rfl c1166z
set_option maxRecDepth 20000 in
set_option maxHeartbeats 1000000 in
theorem la_item {S : Nat × (Nat → Int32)} (hS : S.1 ≤ 320) {i n a b : Nat} {ξ : Nat → Nat → Int32} {ρ : zRho} (inv : zInv n ξ ρ) (hi : 5 * i + 5 ≤ S.1) (ha : 2 * (65 - i) ≤ a) (hb : 42 * (65 - i) ≤ b) (kk : ∀ (n2 : Nat) (ξ2 : Nat → Nat → Int32) (ρ2 : zRho) (a2 b2 : Nat), zInv n2 ξ2 ρ2 → 2 * (64 - i) ≤ a2 → 42 * (64 - i) ≤ b2 → Zw S (Zc S 40) 9 false 3 zk_L_law (fun r _ => r = some (.int 1)) (1405, [some (.retAddr 4), some (.ref 0), some (.ref 42), some (.int (nI (5 * i)))], [], (a2, b2), zWof n2 ξ2 ρ2)) : Zw S (Zc S 40) 9 false 3 zk_L_law (fun r _ => r = some (.int 1)) (1171, [some (.retAddr 4), some (.ref 0), some (.ref 42), some (.int (nI (5 * i)))], [], (a, b), zWof n ξ ρ) := by
  obtain ⟨r, hc⟩ := p_item S inv (S.2 (5 * i + 1)) (S.2 (5 * i + 2)) (S.2 (5 * i + 3))
  refine zr_aload_n 1172 rfl rfl rfl trivial ?_
  refine zr_aload_n 1173 rfl rfl rfl trivial ?_
  refine zr_iload_n 1174 rfl rfl rfl ?_
  refine zr_iconst 1175 (x := 1) rfl rfl (by decide) ?_
  refine zr_iadd 1176 rfl rfl ?_
  rw [show nI (5 * i) + 1 = nI (5 * i + 1) from nI_add _ 1]
  refine zr_ialc 1177 rfl rfl (by decide) (nI_clamp (by omega)) (show vp_in (nI (5 * i + 1)) S.1 from vp_in_nI (by omega) (by omega)) ?_
  refine zr_aload_n 1178 rfl rfl rfl trivial ?_
  refine zr_iload_n 1179 rfl rfl rfl ?_
  refine zr_iconst 1180 (x := 2) rfl rfl (by decide) ?_
  refine zr_iadd 1181 rfl rfl ?_
  rw [show nI (5 * i) + 2 = nI (5 * i + 2) from nI_add _ 2]
  refine zr_ialc 1182 rfl rfl (by decide) (nI_clamp (by omega)) (show vp_in (nI (5 * i + 2)) S.1 from vp_in_nI (by omega) (by omega)) ?_
  refine zr_aload_n 1183 rfl rfl rfl trivial ?_
  refine zr_iload_n 1184 rfl rfl rfl ?_
  refine zr_iconst 1185 (x := 3) rfl rfl (by decide) ?_
  refine zr_iadd 1186 rfl rfl ?_
  rw [show nI (5 * i) + 3 = nI (5 * i + 3) from nI_add _ 3]
  refine zr_ialc 1187 rfl rfl (by decide) (nI_clamp (by omega)) (show vp_in (nI (5 * i + 3)) S.1 from vp_in_nI (by omega) (by omega)) ?_
  refine zr_callv 1190 (As := [_, _, _]) (u2 := (a, b)) rfl rfl rfl rfl rfl rfl rfl (Nat.le_of_ble_eq_true rfl) (Nat.le_of_ble_eq_true rfl) (Nat.le_of_ble_eq_true rfl) rfl hc rfl (fun v2 w2 h1187z => ?_)
  obtain ⟨rfl, n1, ξ1, ρ1, rfl, hc6⟩ := h1187z
  refine zr_aload_n 1191 rfl rfl rfl trivial ?_
  refine zr_aload_n 1192 rfl rfl rfl trivial ?_
  refine zr_iload_n 1193 rfl rfl rfl ?_
  refine zr_iconst 1194 (x := 1) rfl rfl (by decide) ?_
  refine zr_iadd 1195 rfl rfl ?_
  rw [show nI (5 * i) + 1 = nI (5 * i + 1) from nI_add _ 1]
  refine zr_ialc 1196 rfl rfl (by decide) (nI_clamp (by omega)) (show vp_in (nI (5 * i + 1)) S.1 from vp_in_nI (by omega) (by omega)) ?_
  refine zr_aload_n 1197 rfl rfl rfl trivial ?_
  refine zr_iload_n 1198 rfl rfl rfl ?_
  refine zr_iconst 1199 (x := 2) rfl rfl (by decide) ?_
  refine zr_iadd 1200 rfl rfl ?_
  rw [show nI (5 * i) + 2 = nI (5 * i + 2) from nI_add _ 2]
  refine zr_ialc 1201 rfl rfl (by decide) (nI_clamp (by omega)) (show vp_in (nI (5 * i + 2)) S.1 from vp_in_nI (by omega) (by omega)) ?_
  refine zr_aload_n 1202 rfl rfl rfl trivial ?_
  refine zr_iload_n 1203 rfl rfl rfl ?_
  refine zr_iconst 1204 (x := 3) rfl rfl (by decide) ?_
  refine zr_iadd 1205 rfl rfl ?_
  rw [show nI (5 * i) + 3 = nI (5 * i + 3) from nI_add _ 3]
  refine zr_ialc 1206 rfl rfl (by decide) (nI_clamp (by omega)) (show vp_in (nI (5 * i + 3)) S.1 from vp_in_nI (by omega) (by omega)) ?_
  refine zr_callv 1209 (As := [_, _, _]) (u2 := (a, b)) rfl rfl rfl rfl rfl rfl rfl (Nat.le_of_ble_eq_true rfl) (Nat.le_of_ble_eq_true rfl) (Nat.le_of_ble_eq_true rfl) rfl hc6 rfl (fun v2 w2 h1206z => ?_)
  obtain ⟨rfl, n2, ξ2, ρ2, rfl, inv2⟩ := h1206z
  refine zr_icmp_eq 1405 1212 rfl rfl (by decide) (fun c1209z => ?_) (fun c1209z => ?_)
  · exact kk n2 ξ2 ρ2 a b inv2 (by omega) (by omega)
  · exact absurd rfl c1209z
set_option maxRecDepth 20000 in
set_option maxHeartbeats 1000000 in
theorem la_shelf {S : Nat × (Nat → Int32)} (hS : S.1 ≤ 320) {i n a b : Nat} {ξ : Nat → Nat → Int32} {ρ : zRho} (inv : zInv n ξ ρ) (hi : 5 * i + 5 ≤ S.1) (ha : 2 * (65 - i) ≤ a) (hb : 42 * (65 - i) ≤ b) (kk : ∀ (n2 : Nat) (ξ2 : Nat → Nat → Int32) (ρ2 : zRho) (a2 b2 : Nat), zInv n2 ξ2 ρ2 → 2 * (64 - i) ≤ a2 → 42 * (64 - i) ≤ b2 → Zw S (Zc S 40) 9 false 3 zk_L_law (fun r _ => r = some (.int 1)) (1405, [some (.retAddr 4), some (.ref 0), some (.ref 42), some (.int (nI (5 * i)))], [], (a2, b2), zWof n2 ξ2 ρ2)) : Zw S (Zc S 40) 9 false 3 zk_L_law (fun r _ => r = some (.int 1)) (1214, [some (.retAddr 4), some (.ref 0), some (.ref 42), some (.int (nI (5 * i)))], [], (a, b), zWof n ξ ρ) := by
  obtain ⟨r, hc⟩ := p_shelf S inv (S.2 (5 * i + 1)) (S.2 (5 * i + 2)) (S.2 (5 * i + 3))
  refine zr_aload_n 1215 rfl rfl rfl trivial ?_
  refine zr_aload_n 1216 rfl rfl rfl trivial ?_
  refine zr_iload_n 1217 rfl rfl rfl ?_
  refine zr_iconst 1218 (x := 1) rfl rfl (by decide) ?_
  refine zr_iadd 1219 rfl rfl ?_
  rw [show nI (5 * i) + 1 = nI (5 * i + 1) from nI_add _ 1]
  refine zr_ialc 1220 rfl rfl (by decide) (nI_clamp (by omega)) (show vp_in (nI (5 * i + 1)) S.1 from vp_in_nI (by omega) (by omega)) ?_
  refine zr_aload_n 1221 rfl rfl rfl trivial ?_
  refine zr_iload_n 1222 rfl rfl rfl ?_
  refine zr_iconst 1223 (x := 2) rfl rfl (by decide) ?_
  refine zr_iadd 1224 rfl rfl ?_
  rw [show nI (5 * i) + 2 = nI (5 * i + 2) from nI_add _ 2]
  refine zr_ialc 1225 rfl rfl (by decide) (nI_clamp (by omega)) (show vp_in (nI (5 * i + 2)) S.1 from vp_in_nI (by omega) (by omega)) ?_
  refine zr_aload_n 1226 rfl rfl rfl trivial ?_
  refine zr_iload_n 1227 rfl rfl rfl ?_
  refine zr_iconst 1228 (x := 3) rfl rfl (by decide) ?_
  refine zr_iadd 1229 rfl rfl ?_
  rw [show nI (5 * i) + 3 = nI (5 * i + 3) from nI_add _ 3]
  refine zr_ialc 1230 rfl rfl (by decide) (nI_clamp (by omega)) (show vp_in (nI (5 * i + 3)) S.1 from vp_in_nI (by omega) (by omega)) ?_
  refine zr_callv 1233 (As := [_, _, _]) (u2 := (a, b)) rfl rfl rfl rfl rfl rfl rfl (Nat.le_of_ble_eq_true rfl) (Nat.le_of_ble_eq_true rfl) (Nat.le_of_ble_eq_true rfl) rfl hc rfl (fun v2 w2 h1230z => ?_)
  obtain ⟨rfl, n1, ξ1, ρ1, rfl, hc6⟩ := h1230z
  refine zr_aload_n 1234 rfl rfl rfl trivial ?_
  refine zr_aload_n 1235 rfl rfl rfl trivial ?_
  refine zr_iload_n 1236 rfl rfl rfl ?_
  refine zr_iconst 1237 (x := 1) rfl rfl (by decide) ?_
  refine zr_iadd 1238 rfl rfl ?_
  rw [show nI (5 * i) + 1 = nI (5 * i + 1) from nI_add _ 1]
  refine zr_ialc 1239 rfl rfl (by decide) (nI_clamp (by omega)) (show vp_in (nI (5 * i + 1)) S.1 from vp_in_nI (by omega) (by omega)) ?_
  refine zr_aload_n 1240 rfl rfl rfl trivial ?_
  refine zr_iload_n 1241 rfl rfl rfl ?_
  refine zr_iconst 1242 (x := 2) rfl rfl (by decide) ?_
  refine zr_iadd 1243 rfl rfl ?_
  rw [show nI (5 * i) + 2 = nI (5 * i + 2) from nI_add _ 2]
  refine zr_ialc 1244 rfl rfl (by decide) (nI_clamp (by omega)) (show vp_in (nI (5 * i + 2)) S.1 from vp_in_nI (by omega) (by omega)) ?_
  refine zr_aload_n 1245 rfl rfl rfl trivial ?_
  refine zr_iload_n 1246 rfl rfl rfl ?_
  refine zr_iconst 1247 (x := 3) rfl rfl (by decide) ?_
  refine zr_iadd 1248 rfl rfl ?_
  rw [show nI (5 * i) + 3 = nI (5 * i + 3) from nI_add _ 3]
  refine zr_ialc 1249 rfl rfl (by decide) (nI_clamp (by omega)) (show vp_in (nI (5 * i + 3)) S.1 from vp_in_nI (by omega) (by omega)) ?_
  refine zr_callv 1252 (As := [_, _, _]) (u2 := (a, b)) rfl rfl rfl rfl rfl rfl rfl (Nat.le_of_ble_eq_true rfl) (Nat.le_of_ble_eq_true rfl) (Nat.le_of_ble_eq_true rfl) rfl hc6 rfl (fun v2 w2 h1249z => ?_)
  obtain ⟨rfl, n2, ξ2, ρ2, rfl, inv2⟩ := h1249z
  refine zr_icmp_eq 1405 1255 rfl rfl (by decide) (fun c1252z => ?_) (fun c1252z => ?_)
  · exact kk n2 ξ2 ρ2 a b inv2 (by omega) (by omega)
  · exact absurd rfl c1252z
set_option maxRecDepth 20000 in
set_option maxHeartbeats 1000000 in
theorem la_taken {S : Nat × (Nat → Int32)} (hS : S.1 ≤ 320) {i n a b : Nat} {ξ : Nat → Nat → Int32} {ρ : zRho} (inv : zInv n ξ ρ) (hi : 5 * i + 5 ≤ S.1) (ha : 2 * (65 - i) ≤ a) (hb : 42 * (65 - i) ≤ b) (kk : ∀ (n2 : Nat) (ξ2 : Nat → Nat → Int32) (ρ2 : zRho) (a2 b2 : Nat), zInv n2 ξ2 ρ2 → 2 * (64 - i) ≤ a2 → 42 * (64 - i) ≤ b2 → Zw S (Zc S 40) 9 false 3 zk_L_law (fun r _ => r = some (.int 1)) (1405, [some (.retAddr 4), some (.ref 0), some (.ref 42), some (.int (nI (5 * i)))], [], (a2, b2), zWof n2 ξ2 ρ2)) : Zw S (Zc S 40) 9 false 3 zk_L_law (fun r _ => r = some (.int 1)) (1257, [some (.retAddr 4), some (.ref 0), some (.ref 42), some (.int (nI (5 * i)))], [], (a, b), zWof n ξ ρ) := by
  obtain ⟨r, hc⟩ := p_taken S inv (S.2 (5 * i + 1)) (S.2 (5 * i + 2))
  refine zr_aload_n 1258 rfl rfl rfl trivial ?_
  refine zr_aload_n 1259 rfl rfl rfl trivial ?_
  refine zr_iload_n 1260 rfl rfl rfl ?_
  refine zr_iconst 1261 (x := 1) rfl rfl (by decide) ?_
  refine zr_iadd 1262 rfl rfl ?_
  rw [show nI (5 * i) + 1 = nI (5 * i + 1) from nI_add _ 1]
  refine zr_ialc 1263 rfl rfl (by decide) (nI_clamp (by omega)) (show vp_in (nI (5 * i + 1)) S.1 from vp_in_nI (by omega) (by omega)) ?_
  refine zr_aload_n 1264 rfl rfl rfl trivial ?_
  refine zr_iload_n 1265 rfl rfl rfl ?_
  refine zr_iconst 1266 (x := 2) rfl rfl (by decide) ?_
  refine zr_iadd 1267 rfl rfl ?_
  rw [show nI (5 * i) + 2 = nI (5 * i + 2) from nI_add _ 2]
  refine zr_ialc 1268 rfl rfl (by decide) (nI_clamp (by omega)) (show vp_in (nI (5 * i + 2)) S.1 from vp_in_nI (by omega) (by omega)) ?_
  refine zr_callv 1271 (As := [_, _]) (u2 := (a, b)) rfl rfl rfl rfl rfl rfl rfl (Nat.le_of_ble_eq_true rfl) (Nat.le_of_ble_eq_true rfl) (Nat.le_of_ble_eq_true rfl) rfl hc rfl (fun v2 w2 h1268z => ?_)
  obtain ⟨rfl, n1, ξ1, ρ1, rfl, hc6⟩ := h1268z
  refine zr_aload_n 1272 rfl rfl rfl trivial ?_
  refine zr_aload_n 1273 rfl rfl rfl trivial ?_
  refine zr_iload_n 1274 rfl rfl rfl ?_
  refine zr_iconst 1275 (x := 1) rfl rfl (by decide) ?_
  refine zr_iadd 1276 rfl rfl ?_
  rw [show nI (5 * i) + 1 = nI (5 * i + 1) from nI_add _ 1]
  refine zr_ialc 1277 rfl rfl (by decide) (nI_clamp (by omega)) (show vp_in (nI (5 * i + 1)) S.1 from vp_in_nI (by omega) (by omega)) ?_
  refine zr_aload_n 1278 rfl rfl rfl trivial ?_
  refine zr_iload_n 1279 rfl rfl rfl ?_
  refine zr_iconst 1280 (x := 2) rfl rfl (by decide) ?_
  refine zr_iadd 1281 rfl rfl ?_
  rw [show nI (5 * i) + 2 = nI (5 * i + 2) from nI_add _ 2]
  refine zr_ialc 1282 rfl rfl (by decide) (nI_clamp (by omega)) (show vp_in (nI (5 * i + 2)) S.1 from vp_in_nI (by omega) (by omega)) ?_
  refine zr_callv 1285 (As := [_, _]) (u2 := (a, b)) rfl rfl rfl rfl rfl rfl rfl (Nat.le_of_ble_eq_true rfl) (Nat.le_of_ble_eq_true rfl) (Nat.le_of_ble_eq_true rfl) rfl hc6 rfl (fun v2 w2 h1282z => ?_)
  obtain ⟨rfl, n2, ξ2, ρ2, rfl, inv2⟩ := h1282z
  refine zr_icmp_eq 1405 1288 rfl rfl (by decide) (fun c1285z => ?_) (fun c1285z => ?_)
  · exact kk n2 ξ2 ρ2 a b inv2 (by omega) (by omega)
  · exact absurd rfl c1285z
set_option maxRecDepth 20000 in
set_option maxHeartbeats 1000000 in
theorem la_act {S : Nat × (Nat → Int32)} (hS : S.1 ≤ 320) {i n a b : Nat} {ξ : Nat → Nat → Int32} {ρ : zRho} (inv : zInv n ξ ρ) (hi : 5 * i + 5 ≤ S.1) (ha : 2 * (65 - i) ≤ a) (hb : 42 * (65 - i) ≤ b) (kk : ∀ (n2 : Nat) (ξ2 : Nat → Nat → Int32) (ρ2 : zRho) (a2 b2 : Nat), zInv n2 ξ2 ρ2 → 2 * (64 - i) ≤ a2 → 42 * (64 - i) ≤ b2 → Zw S (Zc S 40) 9 false 3 zk_L_law (fun r _ => r = some (.int 1)) (1405, [some (.retAddr 4), some (.ref 0), some (.ref 42), some (.int (nI (5 * i)))], [], (a2, b2), zWof n2 ξ2 ρ2)) : Zw S (Zc S 40) 9 false 3 zk_L_law (fun r _ => r = some (.int 1)) (1290, [some (.retAddr 4), some (.ref 0), some (.ref 42), some (.int (nI (5 * i)))], [], (a, b), zWof n ξ ρ) := by
  obtain ⟨r, hc⟩ := p_act S inv (S.2 (5 * i + 1)) (S.2 (5 * i + 2)) (S.2 (5 * i + 3))
  refine zr_aload_n 1291 rfl rfl rfl trivial ?_
  refine zr_aload_n 1292 rfl rfl rfl trivial ?_
  refine zr_iload_n 1293 rfl rfl rfl ?_
  refine zr_iconst 1294 (x := 1) rfl rfl (by decide) ?_
  refine zr_iadd 1295 rfl rfl ?_
  rw [show nI (5 * i) + 1 = nI (5 * i + 1) from nI_add _ 1]
  refine zr_ialc 1296 rfl rfl (by decide) (nI_clamp (by omega)) (show vp_in (nI (5 * i + 1)) S.1 from vp_in_nI (by omega) (by omega)) ?_
  refine zr_aload_n 1297 rfl rfl rfl trivial ?_
  refine zr_iload_n 1298 rfl rfl rfl ?_
  refine zr_iconst 1299 (x := 2) rfl rfl (by decide) ?_
  refine zr_iadd 1300 rfl rfl ?_
  rw [show nI (5 * i) + 2 = nI (5 * i + 2) from nI_add _ 2]
  refine zr_ialc 1301 rfl rfl (by decide) (nI_clamp (by omega)) (show vp_in (nI (5 * i + 2)) S.1 from vp_in_nI (by omega) (by omega)) ?_
  refine zr_aload_n 1302 rfl rfl rfl trivial ?_
  refine zr_iload_n 1303 rfl rfl rfl ?_
  refine zr_iconst 1304 (x := 3) rfl rfl (by decide) ?_
  refine zr_iadd 1305 rfl rfl ?_
  rw [show nI (5 * i) + 3 = nI (5 * i + 3) from nI_add _ 3]
  refine zr_ialc 1306 rfl rfl (by decide) (nI_clamp (by omega)) (show vp_in (nI (5 * i + 3)) S.1 from vp_in_nI (by omega) (by omega)) ?_
  refine zr_callv 1309 (As := [_, _, _]) (u2 := (a, b)) rfl rfl rfl rfl rfl rfl rfl (Nat.le_of_ble_eq_true rfl) (Nat.le_of_ble_eq_true rfl) (Nat.le_of_ble_eq_true rfl) rfl hc rfl (fun v2 w2 h1306z => ?_)
  obtain ⟨rfl, n1, ξ1, ρ1, rfl, hc6⟩ := h1306z
  refine zr_aload_n 1310 rfl rfl rfl trivial ?_
  refine zr_aload_n 1311 rfl rfl rfl trivial ?_
  refine zr_iload_n 1312 rfl rfl rfl ?_
  refine zr_iconst 1313 (x := 1) rfl rfl (by decide) ?_
  refine zr_iadd 1314 rfl rfl ?_
  rw [show nI (5 * i) + 1 = nI (5 * i + 1) from nI_add _ 1]
  refine zr_ialc 1315 rfl rfl (by decide) (nI_clamp (by omega)) (show vp_in (nI (5 * i + 1)) S.1 from vp_in_nI (by omega) (by omega)) ?_
  refine zr_aload_n 1316 rfl rfl rfl trivial ?_
  refine zr_iload_n 1317 rfl rfl rfl ?_
  refine zr_iconst 1318 (x := 2) rfl rfl (by decide) ?_
  refine zr_iadd 1319 rfl rfl ?_
  rw [show nI (5 * i) + 2 = nI (5 * i + 2) from nI_add _ 2]
  refine zr_ialc 1320 rfl rfl (by decide) (nI_clamp (by omega)) (show vp_in (nI (5 * i + 2)) S.1 from vp_in_nI (by omega) (by omega)) ?_
  refine zr_aload_n 1321 rfl rfl rfl trivial ?_
  refine zr_iload_n 1322 rfl rfl rfl ?_
  refine zr_iconst 1323 (x := 3) rfl rfl (by decide) ?_
  refine zr_iadd 1324 rfl rfl ?_
  rw [show nI (5 * i) + 3 = nI (5 * i + 3) from nI_add _ 3]
  refine zr_ialc 1325 rfl rfl (by decide) (nI_clamp (by omega)) (show vp_in (nI (5 * i + 3)) S.1 from vp_in_nI (by omega) (by omega)) ?_
  refine zr_callv 1328 (As := [_, _, _]) (u2 := (a, b)) rfl rfl rfl rfl rfl rfl rfl (Nat.le_of_ble_eq_true rfl) (Nat.le_of_ble_eq_true rfl) (Nat.le_of_ble_eq_true rfl) rfl hc6 rfl (fun v2 w2 h1325z => ?_)
  obtain ⟨rfl, n2, ξ2, ρ2, rfl, inv2⟩ := h1325z
  refine zr_icmp_eq 1405 1331 rfl rfl (by decide) (fun c1328z => ?_) (fun c1328z => ?_)
  · exact kk n2 ξ2 ρ2 a b inv2 (by omega) (by omega)
  · exact absurd rfl c1328z
set_option maxRecDepth 20000 in
set_option maxHeartbeats 1000000 in
theorem la_trace {S : Nat × (Nat → Int32)} (hS : S.1 ≤ 320) {i n a b : Nat} {ξ : Nat → Nat → Int32} {ρ : zRho} (inv : zInv n ξ ρ) (hi : 5 * i + 5 ≤ S.1) (ha : 2 * (65 - i) ≤ a) (hb : 42 * (65 - i) ≤ b) (kk : ∀ (n2 : Nat) (ξ2 : Nat → Nat → Int32) (ρ2 : zRho) (a2 b2 : Nat), zInv n2 ξ2 ρ2 → 2 * (64 - i) ≤ a2 → 42 * (64 - i) ≤ b2 → Zw S (Zc S 40) 9 false 3 zk_L_law (fun r _ => r = some (.int 1)) (1405, [some (.retAddr 4), some (.ref 0), some (.ref 42), some (.int (nI (5 * i)))], [], (a2, b2), zWof n2 ξ2 ρ2)) : Zw S (Zc S 40) 9 false 3 zk_L_law (fun r _ => r = some (.int 1)) (1333, [some (.retAddr 4), some (.ref 0), some (.ref 42), some (.int (nI (5 * i)))], [], (a, b), zWof n ξ ρ) := by
  obtain ⟨r, hc⟩ := p_trace S inv (S.2 (5 * i + 1))
  refine zr_aload_n 1334 rfl rfl rfl trivial ?_
  refine zr_aload_n 1335 rfl rfl rfl trivial ?_
  refine zr_iload_n 1336 rfl rfl rfl ?_
  refine zr_iconst 1337 (x := 1) rfl rfl (by decide) ?_
  refine zr_iadd 1338 rfl rfl ?_
  rw [show nI (5 * i) + 1 = nI (5 * i + 1) from nI_add _ 1]
  refine zr_ialc 1339 rfl rfl (by decide) (nI_clamp (by omega)) (show vp_in (nI (5 * i + 1)) S.1 from vp_in_nI (by omega) (by omega)) ?_
  refine zr_callv 1342 (As := [_]) (u2 := (a, b)) rfl rfl rfl rfl rfl rfl rfl (Nat.le_of_ble_eq_true rfl) (Nat.le_of_ble_eq_true rfl) (Nat.le_of_ble_eq_true rfl) rfl hc rfl (fun v2 w2 h1339z => ?_)
  obtain ⟨rfl, n1, ξ1, ρ1, rfl, hc6⟩ := h1339z
  refine zr_aload_n 1343 rfl rfl rfl trivial ?_
  refine zr_aload_n 1344 rfl rfl rfl trivial ?_
  refine zr_iload_n 1345 rfl rfl rfl ?_
  refine zr_iconst 1346 (x := 1) rfl rfl (by decide) ?_
  refine zr_iadd 1347 rfl rfl ?_
  rw [show nI (5 * i) + 1 = nI (5 * i + 1) from nI_add _ 1]
  refine zr_ialc 1348 rfl rfl (by decide) (nI_clamp (by omega)) (show vp_in (nI (5 * i + 1)) S.1 from vp_in_nI (by omega) (by omega)) ?_
  refine zr_callv 1351 (As := [_]) (u2 := (a, b)) rfl rfl rfl rfl rfl rfl rfl (Nat.le_of_ble_eq_true rfl) (Nat.le_of_ble_eq_true rfl) (Nat.le_of_ble_eq_true rfl) rfl hc6 rfl (fun v2 w2 h1348z => ?_)
  obtain ⟨rfl, n2, ξ2, ρ2, rfl, inv2⟩ := h1348z
  refine zr_icmp_eq 1405 1354 rfl rfl (by decide) (fun c1351z => ?_) (fun c1351z => ?_)
  · exact kk n2 ξ2 ρ2 a b inv2 (by omega) (by omega)
  · exact absurd rfl c1351z
set_option maxRecDepth 20000 in
set_option maxHeartbeats 1000000 in
theorem la_many {S : Nat × (Nat → Int32)} (hS : S.1 ≤ 320) {i n a b : Nat} {ξ : Nat → Nat → Int32} {ρ : zRho} (inv : zInv n ξ ρ) (hi : 5 * i + 5 ≤ S.1) (ha : 2 * (65 - i) ≤ a) (hb : 42 * (65 - i) ≤ b) (kk : ∀ (n2 : Nat) (ξ2 : Nat → Nat → Int32) (ρ2 : zRho) (a2 b2 : Nat), zInv n2 ξ2 ρ2 → 2 * (64 - i) ≤ a2 → 42 * (64 - i) ≤ b2 → Zw S (Zc S 40) 9 false 3 zk_L_law (fun r _ => r = some (.int 1)) (1405, [some (.retAddr 4), some (.ref 0), some (.ref 42), some (.int (nI (5 * i)))], [], (a2, b2), zWof n2 ξ2 ρ2)) : Zw S (Zc S 40) 9 false 3 zk_L_law (fun r _ => r = some (.int 1)) (1356, [some (.retAddr 4), some (.ref 0), some (.ref 42), some (.int (nI (5 * i)))], [], (a, b), zWof n ξ ρ) := by
  obtain ⟨r, hc⟩ := p_many S inv (S.2 (5 * i + 1))
  refine zr_aload_n 1357 rfl rfl rfl trivial ?_
  refine zr_aload_n 1358 rfl rfl rfl trivial ?_
  refine zr_iload_n 1359 rfl rfl rfl ?_
  refine zr_iconst 1360 (x := 1) rfl rfl (by decide) ?_
  refine zr_iadd 1361 rfl rfl ?_
  rw [show nI (5 * i) + 1 = nI (5 * i + 1) from nI_add _ 1]
  refine zr_ialc 1362 rfl rfl (by decide) (nI_clamp (by omega)) (show vp_in (nI (5 * i + 1)) S.1 from vp_in_nI (by omega) (by omega)) ?_
  refine zr_callv 1365 (As := [_]) (u2 := (a, b)) rfl rfl rfl rfl rfl rfl rfl (Nat.le_of_ble_eq_true rfl) (Nat.le_of_ble_eq_true rfl) (Nat.le_of_ble_eq_true rfl) rfl hc rfl (fun v2 w2 h1362z => ?_)
  obtain ⟨rfl, n1, ξ1, ρ1, rfl, hc6⟩ := h1362z
  refine zr_aload_n 1366 rfl rfl rfl trivial ?_
  refine zr_aload_n 1367 rfl rfl rfl trivial ?_
  refine zr_iload_n 1368 rfl rfl rfl ?_
  refine zr_iconst 1369 (x := 1) rfl rfl (by decide) ?_
  refine zr_iadd 1370 rfl rfl ?_
  rw [show nI (5 * i) + 1 = nI (5 * i + 1) from nI_add _ 1]
  refine zr_ialc 1371 rfl rfl (by decide) (nI_clamp (by omega)) (show vp_in (nI (5 * i + 1)) S.1 from vp_in_nI (by omega) (by omega)) ?_
  refine zr_callv 1374 (As := [_]) (u2 := (a, b)) rfl rfl rfl rfl rfl rfl rfl (Nat.le_of_ble_eq_true rfl) (Nat.le_of_ble_eq_true rfl) (Nat.le_of_ble_eq_true rfl) rfl hc6 rfl (fun v2 w2 h1371z => ?_)
  obtain ⟨rfl, n2, ξ2, ρ2, rfl, inv2⟩ := h1371z
  refine zr_icmp_eq 1405 1377 rfl rfl (by decide) (fun c1374z => ?_) (fun c1374z => ?_)
  · exact kk n2 ξ2 ρ2 a b inv2 (by omega) (by omega)
  · exact absurd rfl c1374z
set_option maxRecDepth 20000 in
set_option maxHeartbeats 1000000 in
theorem la_keep {S : Nat × (Nat → Int32)} (hS : S.1 ≤ 320) {i n a b : Nat} {ξ : Nat → Nat → Int32} {ρ : zRho} (inv : zInv n ξ ρ) (hi : 5 * i + 5 ≤ S.1) (ha : 2 * (65 - i) ≤ a) (hb : 42 * (65 - i) ≤ b) (kk : ∀ (n2 : Nat) (ξ2 : Nat → Nat → Int32) (ρ2 : zRho) (a2 b2 : Nat), zInv n2 ξ2 ρ2 → 2 * (64 - i) ≤ a2 → 42 * (64 - i) ≤ b2 → Zw S (Zc S 40) 9 false 3 zk_L_law (fun r _ => r = some (.int 1)) (1405, [some (.retAddr 4), some (.ref 0), some (.ref 42), some (.int (nI (5 * i)))], [], (a2, b2), zWof n2 ξ2 ρ2)) : Zw S (Zc S 40) 9 false 3 zk_L_law (fun r _ => r = some (.int 1)) (1379, [some (.retAddr 4), some (.ref 0), some (.ref 42), some (.int (nI (5 * i)))], [], (a, b), zWof n ξ ρ) := by
  obtain ⟨r, hc⟩ := p_keep S inv
  refine zr_aload_n 1380 rfl rfl rfl trivial ?_
  refine zr_callv 1383 (As := []) (u2 := (a, b)) rfl rfl rfl rfl rfl rfl rfl (Nat.le_of_ble_eq_true rfl) (Nat.le_of_ble_eq_true rfl) (Nat.le_of_ble_eq_true rfl) rfl hc rfl (fun v2 w2 h1380z => ?_)
  obtain ⟨rfl, n1, ξ1, ρ1, rfl, hc6⟩ := h1380z
  refine zr_aload_n 1384 rfl rfl rfl trivial ?_
  refine zr_callv 1387 (As := []) (u2 := (a, b)) rfl rfl rfl rfl rfl rfl rfl (Nat.le_of_ble_eq_true rfl) (Nat.le_of_ble_eq_true rfl) (Nat.le_of_ble_eq_true rfl) rfl hc6 rfl (fun v2 w2 h1384z => ?_)
  obtain ⟨rfl, n2, ξ2, ρ2, rfl, inv2⟩ := h1384z
  refine zr_icmp_eq 1405 1390 rfl rfl (by decide) (fun c1387z => ?_) (fun c1387z => ?_)
  · exact kk n2 ξ2 ρ2 a b inv2 (by omega) (by omega)
  · exact absurd rfl c1387z
set_option maxRecDepth 20000 in
set_option maxHeartbeats 1000000 in
theorem la_again {S : Nat × (Nat → Int32)} (hS : S.1 ≤ 320) {i n a b : Nat} {ξ : Nat → Nat → Int32} {ρ : zRho} (inv : zInv n ξ ρ) (hi : 5 * i + 5 ≤ S.1) (ha : 2 * (65 - i) ≤ a) (hb : 42 * (65 - i) ≤ b) (kk : ∀ (n2 : Nat) (ξ2 : Nat → Nat → Int32) (ρ2 : zRho) (a2 b2 : Nat), zInv n2 ξ2 ρ2 → 2 * (64 - i) ≤ a2 → 42 * (64 - i) ≤ b2 → Zw S (Zc S 40) 9 false 3 zk_L_law (fun r _ => r = some (.int 1)) (1405, [some (.retAddr 4), some (.ref 0), some (.ref 42), some (.int (nI (5 * i)))], [], (a2, b2), zWof n2 ξ2 ρ2)) : Zw S (Zc S 40) 9 false 3 zk_L_law (fun r _ => r = some (.int 1)) (1392, [some (.retAddr 4), some (.ref 0), some (.ref 42), some (.int (nI (5 * i)))], [], (a, b), zWof n ξ ρ) := by
  obtain ⟨r, hc⟩ := p_again S inv
  refine zr_aload_n 1393 rfl rfl rfl trivial ?_
  refine zr_callv 1396 (As := []) (u2 := (a, b)) rfl rfl rfl rfl rfl rfl rfl (Nat.le_of_ble_eq_true rfl) (Nat.le_of_ble_eq_true rfl) (Nat.le_of_ble_eq_true rfl) rfl hc rfl (fun v2 w2 h1393z => ?_)
  obtain ⟨rfl, n1, ξ1, ρ1, rfl, hc6⟩ := h1393z
  refine zr_aload_n 1397 rfl rfl rfl trivial ?_
  refine zr_callv 1400 (As := []) (u2 := (a, b)) rfl rfl rfl rfl rfl rfl rfl (Nat.le_of_ble_eq_true rfl) (Nat.le_of_ble_eq_true rfl) (Nat.le_of_ble_eq_true rfl) rfl hc6 rfl (fun v2 w2 h1397z => ?_)
  obtain ⟨rfl, n2, ξ2, ρ2, rfl, inv2⟩ := h1397z
  refine zr_icmp_eq 1405 1403 rfl rfl (by decide) (fun c1400z => ?_) (fun c1400z => ?_)
  · exact kk n2 ξ2 ρ2 a b inv2 (by omega) (by omega)
  · exact absurd rfl c1400z
