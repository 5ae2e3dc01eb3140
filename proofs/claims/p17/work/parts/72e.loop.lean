set_option maxHeartbeats 40000000 in
set_option maxRecDepth 100000 in
theorem lw_c4b {p : Program} {e : Env} {s : State} {m : MethodId} {below : List Frame} {meth : Method} {c : Code} (l : Launch) {b L : Nat} {xs : Nat → Int32} (hL : L ≤ 4608) (G : mG) (hgN : gN G = s.heap.size) (hC : mC G s) (C0 : lw_At p s m meth c b L xs) (k h : Nat → Nat) (hsep : ∀ i j, i < 41 → j < 30 → k i ≠ h j) (hjk : ∀ j, j < 30 → rM j = false → h j = h 0) (N_ : Nat) (ih_ : lw_I p e s m below meth c l b L G k h N_) (i : Int32) (f : mF) (rho : tR) (n : Nat) (T z : Nat → Nat) (A : Nat → tA) (hg : Nat) (ver : Nat → Nat → tB) (cq : Nat → Bool) (fe : Int32) (tms : Nat → Int32) (ca : Int32) (wl : List Nat) (wh : Int32) (ac th : Nat) (xc xm : Int32) (s_ : tS) (cl_ sl_ : Nat) (h0_ : 0 ≤ i.toInt) (h1_ : i.toInt ≤ (L : Int) - 9) (hF : FM G h n T z A hg ver cq fe tms ca wl wh ac th xm s_ f) (hro : ∀ j, j < 30 → (rho (h j)).1 = 0) (hcl : 9 * (cl_ : Int) ≤ 549 + 228 * i.toInt) (hsl : 9 * (sl_ : Int) ≤ 766476 + 2204 * i.toInt) (hN_ : ((4617 : Int) - i.toInt).toNat < N_ + 1) (y_ : Int64) (ey_ : y_ = (((xs (i.toNatClampNeg + 4)).toInt64) <<< ((32 : Int32).toInt64 &&& 63)) ||| (((xs (i.toNatClampNeg + 5)).toInt64) &&& 4294967295)) (r_ : Int32) (ho1_ : O1A G k rho f n T z A hg ver cq fe tms ca wl wh ac th xc s_ r_ (xs (i.toNatClampNeg + 1)) (xs (i.toNatClampNeg + 2)) (xs (i.toNatClampNeg + 3)) y_ (xs (i.toNatClampNeg + 6)) (xs (i.toNatClampNeg + 7)) (xs (i.toNatClampNeg + 8))) (H : Heap) (locs : List Loc) (ls : Array Slot) (hH : mH G s f H locs) (hl : lv_has ls 4 [(3, .int i), (2, .ref (h 0)), (1, .ref (k 0)), (0, .ref b)]) : W p l e room_1 s m #[Value.ref b] below meth c H locs (cl_ + 1) (sl_ + 6) (lw_Z below #[Value.ref b] s) (F0 m 363 ls [.int r_]) := by
  have C1 := C0
  obtain ⟨hx, hb, hr, hml, hown, hts0, hX, hbl, hlk, hgv⟩ := C0
  have hts : ∀ w ∈ wsL_law, w.before #[Value.ref b] s = true := fun w h => hts0 w (wsL_law_in w h)
  have hbA : ¬ mA G b := fun q => by have q : gN G ≤ b := q; omega
  have hLen : (Int32.ofNat L).toInt = (L : Int) := nI_toInt (by omega)
  refine lv_pop hx hb dL_law_363 rfl ?_
  refine lv_aload_n hx hb dL_law_364 rfl (lv_at hl 1 rfl) ?_
  refine lv_aload_n hx hb dL_law_365 rfl (lv_at hl 3 rfl) ?_
  refine lv_iload_n hx hb dL_law_366 rfl (lv_at hl 0 rfl) ?_
  refine lv_iconst (v := 1) hx hb dL_law_367 (by decide) ?_
  refine lv_iadd hx hb dL_law_368 ?_
  refine lv_topi (fun x_1 ex_1 => ?_)
  have ix_1 : x_1.toInt = i.toInt + 1 := ic_add ex_1 rfl kI_1 (by omega) (by omega)
  refine va_sld (i := x_1) hx hb hX hbl hbA hH.2.2 (vp_in_iff.mpr ⟨by omega, by omega⟩) dL_law_369 ?_
  rw [show x_1.toNatClampNeg = i.toNatClampNeg + 1 from by have := ic_clN (rfl : x_1.toInt = _) (by omega); have := ic_clN (rfl : i.toInt = _) (by omega); omega]
  refine lv_aload_n hx hb dL_law_370 rfl (lv_at hl 3 rfl) ?_
  refine lv_iload_n hx hb dL_law_371 rfl (lv_at hl 0 rfl) ?_
  refine lv_iconst (v := 2) hx hb dL_law_372 (by decide) ?_
  refine lv_iadd hx hb dL_law_373 ?_
  refine lv_topi (fun x_2 ex_2 => ?_)
  have ix_2 : x_2.toInt = i.toInt + 2 := ic_add ex_2 rfl kI_2 (by omega) (by omega)
  refine va_sld (i := x_2) hx hb hX hbl hbA hH.2.2 (vp_in_iff.mpr ⟨by omega, by omega⟩) dL_law_374 ?_
  rw [show x_2.toNatClampNeg = i.toNatClampNeg + 2 from by have := ic_clN (rfl : x_2.toInt = _) (by omega); have := ic_clN (rfl : i.toInt = _) (by omega); omega]
  refine lv_aload_n hx hb dL_law_375 rfl (lv_at hl 3 rfl) ?_
  refine lv_iload_n hx hb dL_law_376 rfl (lv_at hl 0 rfl) ?_
  refine lv_iconst (v := 3) hx hb dL_law_377 (by decide) ?_
  refine lv_iadd hx hb dL_law_378 ?_
  refine lv_topi (fun x_3 ex_3 => ?_)
  have ix_3 : x_3.toInt = i.toInt + 3 := ic_add ex_3 rfl kI_3 (by omega) (by omega)
  refine va_sld (i := x_3) hx hb hX hbl hbA hH.2.2 (vp_in_iff.mpr ⟨by omega, by omega⟩) dL_law_379 ?_
  rw [show x_3.toNatClampNeg = i.toNatClampNeg + 3 from by have := ic_clN (rfl : x_3.toInt = _) (by omega); have := ic_clN (rfl : i.toInt = _) (by omega); omega]
  refine lv_aload_n hx hb dL_law_380 rfl (lv_at hl 3 rfl) ?_
  refine lv_iload_n hx hb dL_law_381 rfl (lv_at hl 0 rfl) ?_
  refine lv_iconst (v := 4) hx hb dL_law_382 (by decide) ?_
  refine lv_iadd hx hb dL_law_383 ?_
  refine lv_topi (fun x_4 ex_4 => ?_)
  have ix_4 : x_4.toInt = i.toInt + 4 := ic_add ex_4 rfl kI_4 (by omega) (by omega)
  refine va_sld (i := x_4) hx hb hX hbl hbA hH.2.2 (vp_in_iff.mpr ⟨by omega, by omega⟩) dL_law_384 ?_
  rw [show x_4.toNatClampNeg = i.toNatClampNeg + 4 from by have := ic_clN (rfl : x_4.toInt = _) (by omega); have := ic_clN (rfl : i.toInt = _) (by omega); omega]
  refine lv_i2l hx hb dL_law_385 rfl ?_
  refine lv_bipush (v := 32) hx hb dL_law_386 (by decide) ?_
  refine lv_lshl hx hb dL_law_388 rfl ?_
  refine lv_aload_n hx hb dL_law_389 rfl (lv_at hl 3 rfl) ?_
  refine lv_iload_n hx hb dL_law_390 rfl (lv_at hl 0 rfl) ?_
  refine lv_iconst (v := 5) hx hb dL_law_391 (by decide) ?_
  refine lv_iadd hx hb dL_law_392 ?_
  refine lv_topi (fun x_5 ex_5 => ?_)
  have ix_5 : x_5.toInt = i.toInt + 5 := ic_add ex_5 rfl kI_5 (by omega) (by omega)
  refine va_sld (i := x_5) hx hb hX hbl hbA hH.2.2 (vp_in_iff.mpr ⟨by omega, by omega⟩) dL_law_393 ?_
  rw [show x_5.toNatClampNeg = i.toNatClampNeg + 5 from by have := ic_clN (rfl : x_5.toInt = _) (by omega); have := ic_clN (rfl : i.toInt = _) (by omega); omega]
  refine lv_i2l hx hb dL_law_394 rfl ?_
  refine lv_ldc2 (v := 4294967295) hx hb hown (hts (.constantLong RL 18 (4294967295)) (by decide +kernel)) dL_law_395 ?_
  refine lv_land hx hb dL_law_398 ?_
  refine lv_lor hx hb dL_law_399 ?_
  refine lv_topl (fun y_6 ey_6 => ?_)
  rw [show y_6 = y_ from ey_6.trans ey_.symm]
  refine lv_aload_n hx hb dL_law_400 rfl (lv_at hl 3 rfl) ?_
  refine lv_iload_n hx hb dL_law_401 rfl (lv_at hl 0 rfl) ?_
  refine lv_bipush (v := 6) hx hb dL_law_402 (by decide) ?_
  refine lv_iadd hx hb dL_law_404 ?_
  refine lv_topi (fun x_7 ex_7 => ?_)
  have ix_7 : x_7.toInt = i.toInt + 6 := ic_add ex_7 rfl kI_6 (by omega) (by omega)
  refine va_sld (i := x_7) hx hb hX hbl hbA hH.2.2 (vp_in_iff.mpr ⟨by omega, by omega⟩) dL_law_405 ?_
  rw [show x_7.toNatClampNeg = i.toNatClampNeg + 6 from by have := ic_clN (rfl : x_7.toInt = _) (by omega); have := ic_clN (rfl : i.toInt = _) (by omega); omega]
  refine lv_aload_n hx hb dL_law_406 rfl (lv_at hl 3 rfl) ?_
  refine lv_iload_n hx hb dL_law_407 rfl (lv_at hl 0 rfl) ?_
  refine lv_bipush (v := 7) hx hb dL_law_408 (by decide) ?_
  refine lv_iadd hx hb dL_law_410 ?_
  refine lv_topi (fun x_8 ex_8 => ?_)
  have ix_8 : x_8.toInt = i.toInt + 7 := ic_add ex_8 rfl kI_7 (by omega) (by omega)
  refine va_sld (i := x_8) hx hb hX hbl hbA hH.2.2 (vp_in_iff.mpr ⟨by omega, by omega⟩) dL_law_411 ?_
  rw [show x_8.toNatClampNeg = i.toNatClampNeg + 7 from by have := ic_clN (rfl : x_8.toInt = _) (by omega); have := ic_clN (rfl : i.toInt = _) (by omega); omega]
  refine lv_aload_n hx hb dL_law_412 rfl (lv_at hl 3 rfl) ?_
  refine lv_iload_n hx hb dL_law_413 rfl (lv_at hl 0 rfl) ?_
  refine lv_bipush (v := 8) hx hb dL_law_414 (by decide) ?_
  refine lv_iadd hx hb dL_law_416 ?_
  refine lv_topi (fun x_9 ex_9 => ?_)
  have ix_9 : x_9.toInt = i.toInt + 8 := ic_add ex_9 rfl kI_8 (by omega) (by omega)
  refine va_sld (i := x_9) hx hb hX hbl hbA hH.2.2 (vp_in_iff.mpr ⟨by omega, by omega⟩) dL_law_417 ?_
  rw [show x_9.toNatClampNeg = i.toNatClampNeg + 8 from by have := ic_clN (rfl : x_9.toInt = _) (by omega); have := ic_clN (rfl : i.toInt = _) (by omega); omega]
  obtain ⟨_, F_13⟩ := FM.c0 hF
  refine m_goi hH (va_runV (As := [.int (xs (i.toNatClampNeg + 1)), .int (xs (i.toNatClampNeg + 2)), .int (xs (i.toNatClampNeg + 3)), .long y_, .int (xs (i.toNatClampNeg + 6)), .int (xs (i.toNatClampNeg + 7)), .int (xs (i.toNatClampNeg + 8))]) (rest := []) ⟨hx, hb, hml, hown, hts⟩ (c_X6_act l G h n T z A hg ver cq fe tms ca wl wh ac th xm s_ f hF (xs (i.toNatClampNeg + 1)) (xs (i.toNatClampNeg + 2)) (xs (i.toNatClampNeg + 3)) y_ (xs (i.toNatClampNeg + 6)) (xs (i.toNatClampNeg + 7)) (xs (i.toNatClampNeg + 8))) (cwV 7 hts gL_law_X6_act rfl rfl rfl (by decide +kernel) ⟨Nat.le_of_ble_eq_true rfl, Nat.le_of_ble_eq_true rfl⟩) (m_preV (ci := 6) hC hH F_13 rfl) rfl rfl hl.1 rfl (lv_room (Nat.le_of_ble_eq_true rfl)) dL_law_418 ⟨by show _ ≤ 600000; omega, by show _ ≤ 7302250; omega⟩) (fun r_10 rho_12 f_11 H locs hw hH => ?_)
  obtain ⟨hfr_, ho2_⟩ := hw
  try dsimp only at ho2_
  have hfr_ : frM h f f_11 := hfr_
  obtain ⟨er_, hJ⟩ := join_act2 ho1_ ho2_ (fun _ _ _ q_ => q_.keep hro hfr_)
  have er_ : r_.toInt = r_10.toInt := congrArg Int32.toInt er_
  refine lv_pop hx hb dL_law_421 rfl ?_
  refine lv_goto (tgt := 857) hx hb dL_law_422 (by decide) ?_
  obtain ⟨x_14, ex_14⟩ : ∃ y : Int32, y = i + 9 := ⟨_, rfl⟩
  have ix_14 : x_14.toInt = i.toInt + 9 := ic_add ex_14 rfl kI_9 (by omega) (by omega)
  refine lv_iinc (v := x_14) (lv' := [(3, .int x_14), (2, .ref (h 0)), (1, .ref (k 0)), (0, .ref b)]) hx hb dL_law_857 hl (k := 0) rfl (by rw [ex_14]; rfl) (by decide) rfl (fun ls hl => ?_)
  refine lv_goto (tgt := 18) hx hb dL_law_860 (by decide) ?_
  exact ih_ x_14 f_11 rho (cl_ + 1 + 0) (sl_ + 6 + 0) (by omega) (by omega) hJ hro (by omega) (by omega) (by omega) _ _ _ hH (lv_sub hl [0, 1, 2, 3] rfl)
set_option maxHeartbeats 40000000 in
set_option maxRecDepth 100000 in
theorem lw_c4 {p : Program} {e : Env} {s : State} {m : MethodId} {below : List Frame} {meth : Method} {c : Code} (l : Launch) {b L : Nat} {xs : Nat → Int32} (hL : L ≤ 4608) (G : mG) (hgN : gN G = s.heap.size) (hC : mC G s) (C0 : lw_At p s m meth c b L xs) (k h : Nat → Nat) (hsep : ∀ i j, i < 41 → j < 30 → k i ≠ h j) (hjk : ∀ j, j < 30 → rM j = false → h j = h 0) (N_ : Nat) (ih_ : lw_I p e s m below meth c l b L G k h N_) (i : Int32) (f : mF) (rho : tR) (cl_ sl_ : Nat) (h0_ : 0 ≤ i.toInt) (h1_ : i.toInt ≤ (L : Int) - 9) (hJ : JI G k h rho f) (hro : ∀ j, j < 30 → (rho (h j)).1 = 0) (hcl : 9 * (cl_ : Int) ≤ 549 + 228 * i.toInt) (hsl : 9 * (sl_ : Int) ≤ 766476 + 2204 * i.toInt) (hN_ : ((4617 : Int) - i.toInt).toNat < N_ + 1) (H : Heap) (locs : List Loc) (ls : Array Slot) (hH : mH G s f H locs) (hl : lv_has ls 4 [(3, .int i), (2, .ref (h 0)), (1, .ref (k 0)), (0, .ref b)]) : W p l e room_1 s m #[Value.ref b] below meth c H locs cl_ sl_ (lw_Z below #[Value.ref b] s) (F0 m 306 ls []) := by
  have C1 := C0
  obtain ⟨hx, hb, hr, hml, hown, hts0, hX, hbl, hlk, hgv⟩ := C0
  have hts : ∀ w ∈ wsL_law, w.before #[Value.ref b] s = true := fun w h => hts0 w (wsL_law_in w h)
  have hbA : ¬ mA G b := fun q => by have q : gN G ≤ b := q; omega
  have hLen : (Int32.ofNat L).toInt = (L : Int) := nI_toInt (by omega)
  obtain ⟨n, T, z, A, hg, ver, cq, fe, tms, ca, wl, wh, ac, th, xc, xm, s_, ⟨D, hM, hG⟩, hF⟩ := hJ
  refine lv_aload_n hx hb dL_law_306 rfl (lv_at hl 2 rfl) ?_
  refine lv_aload_n hx hb dL_law_307 rfl (lv_at hl 3 rfl) ?_
  refine lv_iload_n hx hb dL_law_308 rfl (lv_at hl 0 rfl) ?_
  refine lv_iconst (v := 1) hx hb dL_law_309 (by decide) ?_
  refine lv_iadd hx hb dL_law_310 ?_
  refine lv_topi (fun x_1 ex_1 => ?_)
  have ix_1 : x_1.toInt = i.toInt + 1 := ic_add ex_1 rfl kI_1 (by omega) (by omega)
  refine va_sld (i := x_1) hx hb hX hbl hbA hH.2.2 (vp_in_iff.mpr ⟨by omega, by omega⟩) dL_law_311 ?_
  rw [show x_1.toNatClampNeg = i.toNatClampNeg + 1 from by have := ic_clN (rfl : x_1.toInt = _) (by omega); have := ic_clN (rfl : i.toInt = _) (by omega); omega]
  refine lv_aload_n hx hb dL_law_312 rfl (lv_at hl 3 rfl) ?_
  refine lv_iload_n hx hb dL_law_313 rfl (lv_at hl 0 rfl) ?_
  refine lv_iconst (v := 2) hx hb dL_law_314 (by decide) ?_
  refine lv_iadd hx hb dL_law_315 ?_
  refine lv_topi (fun x_2 ex_2 => ?_)
  have ix_2 : x_2.toInt = i.toInt + 2 := ic_add ex_2 rfl kI_2 (by omega) (by omega)
  refine va_sld (i := x_2) hx hb hX hbl hbA hH.2.2 (vp_in_iff.mpr ⟨by omega, by omega⟩) dL_law_316 ?_
  rw [show x_2.toNatClampNeg = i.toNatClampNeg + 2 from by have := ic_clN (rfl : x_2.toInt = _) (by omega); have := ic_clN (rfl : i.toInt = _) (by omega); omega]
  refine lv_aload_n hx hb dL_law_317 rfl (lv_at hl 3 rfl) ?_
  refine lv_iload_n hx hb dL_law_318 rfl (lv_at hl 0 rfl) ?_
  refine lv_iconst (v := 3) hx hb dL_law_319 (by decide) ?_
  refine lv_iadd hx hb dL_law_320 ?_
  refine lv_topi (fun x_3 ex_3 => ?_)
  have ix_3 : x_3.toInt = i.toInt + 3 := ic_add ex_3 rfl kI_3 (by omega) (by omega)
  refine va_sld (i := x_3) hx hb hX hbl hbA hH.2.2 (vp_in_iff.mpr ⟨by omega, by omega⟩) dL_law_321 ?_
  rw [show x_3.toNatClampNeg = i.toNatClampNeg + 3 from by have := ic_clN (rfl : x_3.toInt = _) (by omega); have := ic_clN (rfl : i.toInt = _) (by omega); omega]
  refine lv_aload_n hx hb dL_law_322 rfl (lv_at hl 3 rfl) ?_
  refine lv_iload_n hx hb dL_law_323 rfl (lv_at hl 0 rfl) ?_
  refine lv_iconst (v := 4) hx hb dL_law_324 (by decide) ?_
  refine lv_iadd hx hb dL_law_325 ?_
  refine lv_topi (fun x_4 ex_4 => ?_)
  have ix_4 : x_4.toInt = i.toInt + 4 := ic_add ex_4 rfl kI_4 (by omega) (by omega)
  refine va_sld (i := x_4) hx hb hX hbl hbA hH.2.2 (vp_in_iff.mpr ⟨by omega, by omega⟩) dL_law_326 ?_
  rw [show x_4.toNatClampNeg = i.toNatClampNeg + 4 from by have := ic_clN (rfl : x_4.toInt = _) (by omega); have := ic_clN (rfl : i.toInt = _) (by omega); omega]
  refine lv_i2l hx hb dL_law_327 rfl ?_
  refine lv_bipush (v := 32) hx hb dL_law_328 (by decide) ?_
  refine lv_lshl hx hb dL_law_330 rfl ?_
  refine lv_aload_n hx hb dL_law_331 rfl (lv_at hl 3 rfl) ?_
  refine lv_iload_n hx hb dL_law_332 rfl (lv_at hl 0 rfl) ?_
  refine lv_iconst (v := 5) hx hb dL_law_333 (by decide) ?_
  refine lv_iadd hx hb dL_law_334 ?_
  refine lv_topi (fun x_5 ex_5 => ?_)
  have ix_5 : x_5.toInt = i.toInt + 5 := ic_add ex_5 rfl kI_5 (by omega) (by omega)
  refine va_sld (i := x_5) hx hb hX hbl hbA hH.2.2 (vp_in_iff.mpr ⟨by omega, by omega⟩) dL_law_335 ?_
  rw [show x_5.toNatClampNeg = i.toNatClampNeg + 5 from by have := ic_clN (rfl : x_5.toInt = _) (by omega); have := ic_clN (rfl : i.toInt = _) (by omega); omega]
  refine lv_i2l hx hb dL_law_336 rfl ?_
  refine lv_ldc2 (v := 4294967295) hx hb hown (hts (.constantLong RL 18 (4294967295)) (by decide +kernel)) dL_law_337 ?_
  refine lv_land hx hb dL_law_340 ?_
  refine lv_lor hx hb dL_law_341 ?_
  refine lv_topl (fun y_6 ey_6 => ?_)
  refine lv_aload_n hx hb dL_law_342 rfl (lv_at hl 3 rfl) ?_
  refine lv_iload_n hx hb dL_law_343 rfl (lv_at hl 0 rfl) ?_
  refine lv_bipush (v := 6) hx hb dL_law_344 (by decide) ?_
  refine lv_iadd hx hb dL_law_346 ?_
  refine lv_topi (fun x_7 ex_7 => ?_)
  have ix_7 : x_7.toInt = i.toInt + 6 := ic_add ex_7 rfl kI_6 (by omega) (by omega)
  refine va_sld (i := x_7) hx hb hX hbl hbA hH.2.2 (vp_in_iff.mpr ⟨by omega, by omega⟩) dL_law_347 ?_
  rw [show x_7.toNatClampNeg = i.toNatClampNeg + 6 from by have := ic_clN (rfl : x_7.toInt = _) (by omega); have := ic_clN (rfl : i.toInt = _) (by omega); omega]
  refine lv_aload_n hx hb dL_law_348 rfl (lv_at hl 3 rfl) ?_
  refine lv_iload_n hx hb dL_law_349 rfl (lv_at hl 0 rfl) ?_
  refine lv_bipush (v := 7) hx hb dL_law_350 (by decide) ?_
  refine lv_iadd hx hb dL_law_352 ?_
  refine lv_topi (fun x_8 ex_8 => ?_)
  have ix_8 : x_8.toInt = i.toInt + 7 := ic_add ex_8 rfl kI_7 (by omega) (by omega)
  refine va_sld (i := x_8) hx hb hX hbl hbA hH.2.2 (vp_in_iff.mpr ⟨by omega, by omega⟩) dL_law_353 ?_
  rw [show x_8.toNatClampNeg = i.toNatClampNeg + 7 from by have := ic_clN (rfl : x_8.toInt = _) (by omega); have := ic_clN (rfl : i.toInt = _) (by omega); omega]
  refine lv_aload_n hx hb dL_law_354 rfl (lv_at hl 3 rfl) ?_
  refine lv_iload_n hx hb dL_law_355 rfl (lv_at hl 0 rfl) ?_
  refine lv_bipush (v := 8) hx hb dL_law_356 (by decide) ?_
  refine lv_iadd hx hb dL_law_358 ?_
  refine lv_topi (fun x_9 ex_9 => ?_)
  have ix_9 : x_9.toInt = i.toInt + 8 := ic_add ex_9 rfl kI_8 (by omega) (by omega)
  refine va_sld (i := x_9) hx hb hX hbl hbA hH.2.2 (vp_in_iff.mpr ⟨by omega, by omega⟩) dL_law_359 ?_
  rw [show x_9.toNatClampNeg = i.toNatClampNeg + 8 from by have := ic_clN (rfl : x_9.toInt = _) (by omega); have := ic_clN (rfl : i.toInt = _) (by omega); omega]
  have F_13 := hM.c0
  refine m_goi hH (va_runV (As := [.int (xs (i.toNatClampNeg + 1)), .int (xs (i.toNatClampNeg + 2)), .int (xs (i.toNatClampNeg + 3)), .long y_6, .int (xs (i.toNatClampNeg + 6)), .int (xs (i.toNatClampNeg + 7)), .int (xs (i.toNatClampNeg + 8))]) (rest := []) ⟨hx, hb, hml, hown, hts⟩ (c_X5_act l G k rho n T z A hg ver cq fe tms ca wl wh ac th xc (ldS s_) (trS s_) (gfS s_) D f hM hG (xs (i.toNatClampNeg + 1)) (xs (i.toNatClampNeg + 2)) (xs (i.toNatClampNeg + 3)) y_6 (xs (i.toNatClampNeg + 6)) (xs (i.toNatClampNeg + 7)) (xs (i.toNatClampNeg + 8))) (cwV 7 hts gL_law_X5_act rfl rfl rfl (by decide +kernel) ⟨Nat.le_of_ble_eq_true rfl, Nat.le_of_ble_eq_true rfl⟩) (m_preV (ci := 5) hC hH F_13 rfl) rfl rfl hl.1 rfl (lv_room (Nat.le_of_ble_eq_true rfl)) dL_law_360 ⟨by show _ ≤ 600000; omega, by show _ ≤ 7302250; omega⟩) (fun r_10 rho_12 f_11 H locs hw hH => ?_)
  obtain ⟨hfr_, ho1_⟩ := hw
  have hfr_ : frD rho f rho_12 f_11 := hfr_
  obtain ⟨hF, hro⟩ := FM.keep hF hjk hro hfr_
  exact lw_c4b l hL G hgN hC C1 k h hsep hjk N_ ih_ i f_11 rho_12 n T z A hg ver cq fe tms ca wl wh ac th xc xm s_ cl_ sl_ h0_ h1_ hF hro hcl hsl hN_ y_6 ey_6 r_10 ho1_ _ _ _ hH hl
