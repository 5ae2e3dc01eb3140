set_option maxHeartbeats 40000000 in
set_option maxRecDepth 100000 in
theorem lw_c9 {p : Program} {e : Env} {s : State} {m : MethodId} {below : List Frame} {meth : Method} {c : Code} (l : Launch) {b L : Nat} {xs : Nat → Int32} (hL : L ≤ 4608) (G : mG) (hgN : gN G = s.heap.size) (hC : mC G s) (C0 : lw_At p s m meth c b L xs) (k h : Nat → Nat) (hsep : ∀ i j, i < 41 → j < 30 → k i ≠ h j) (hjk : ∀ j, j < 30 → rM j = false → h j = h 0) (N_ : Nat) (ih_ : lw_I p e s m below meth c l b L G k h N_) (i : Int32) (f : mF) (rho : tR) (cl_ sl_ : Nat) (h0_ : 0 ≤ i.toInt) (h1_ : i.toInt ≤ (L : Int) - 9) (hJ : JI G k h rho f) (hro : ∀ j, j < 30 → (rho (h j)).1 = 0) (hcl : 9 * (cl_ : Int) ≤ 549 + 228 * i.toInt) (hsl : 9 * (sl_ : Int) ≤ 766476 + 2204 * i.toInt) (hN_ : ((4617 : Int) - i.toInt).toNat < N_ + 1) (H : Heap) (locs : List Loc) (ls : Array Slot) (hH : mH G s f H locs) (hl : lv_has ls 4 [(3, .int i), (2, .ref (h 0)), (1, .ref (k 0)), (0, .ref b)]) : W p l e room_1 s m #[Value.ref b] below meth c H locs cl_ sl_ (lw_Z below #[Value.ref b] s) (F0 m 547 ls []) := by
  have C1 := C0
  obtain ⟨hx, hb, hr, hml, hown, hts0, hX, hbl, hlk, hgv⟩ := C0
  have hts : ∀ w ∈ wsL_law, w.before #[Value.ref b] s = true := fun w h => hts0 w (wsL_law_in w h)
  have hbA : ¬ mA G b := fun q => by have q : gN G ≤ b := q; omega
  have hLen : (Int32.ofNat L).toInt = (L : Int) := nI_toInt (by omega)
  obtain ⟨n, T, z, A, hg, ver, cq, fe, tms, ca, wl, wh, ac, th, xc, xm, s_, ⟨D, hM, hG⟩, hF⟩ := hJ
  refine lv_aload_n hx hb dL_law_547 rfl (lv_at hl 2 rfl) ?_
  refine lv_aload_n hx hb dL_law_548 rfl (lv_at hl 3 rfl) ?_
  refine lv_iload_n hx hb dL_law_549 rfl (lv_at hl 0 rfl) ?_
  refine lv_iconst (v := 1) hx hb dL_law_550 (by decide) ?_
  refine lv_iadd hx hb dL_law_551 ?_
  refine lv_topi (fun x_1 ex_1 => ?_)
  have ix_1 : x_1.toInt = i.toInt + 1 := ic_add ex_1 rfl kI_1 (by omega) (by omega)
  refine va_sld (i := x_1) hx hb hX hbl hbA hH.2.2 (vp_in_iff.mpr ⟨by omega, by omega⟩) dL_law_552 ?_
  rw [show x_1.toNatClampNeg = i.toNatClampNeg + 1 from by have := ic_clN (rfl : x_1.toInt = _) (by omega); have := ic_clN (rfl : i.toInt = _) (by omega); omega]
  refine lv_aload_n hx hb dL_law_553 rfl (lv_at hl 3 rfl) ?_
  refine lv_iload_n hx hb dL_law_554 rfl (lv_at hl 0 rfl) ?_
  refine lv_iconst (v := 2) hx hb dL_law_555 (by decide) ?_
  refine lv_iadd hx hb dL_law_556 ?_
  refine lv_topi (fun x_2 ex_2 => ?_)
  have ix_2 : x_2.toInt = i.toInt + 2 := ic_add ex_2 rfl kI_2 (by omega) (by omega)
  refine va_sld (i := x_2) hx hb hX hbl hbA hH.2.2 (vp_in_iff.mpr ⟨by omega, by omega⟩) dL_law_557 ?_
  rw [show x_2.toNatClampNeg = i.toNatClampNeg + 2 from by have := ic_clN (rfl : x_2.toInt = _) (by omega); have := ic_clN (rfl : i.toInt = _) (by omega); omega]
  have F_6 := hM.c0
  refine m_goi hH (va_runV (As := [.int (xs (i.toNatClampNeg + 1)), .int (xs (i.toNatClampNeg + 2))]) (rest := []) ⟨hx, hb, hml, hown, hts⟩ (c_X5_touched l G k rho n T z A hg ver cq fe tms ca wl wh ac th xc (ldS s_) (trS s_) (gfS s_) D f hM hG (xs (i.toNatClampNeg + 1)) (xs (i.toNatClampNeg + 2))) (cwV 2 hts gL_law_X5_touched rfl rfl rfl (by decide +kernel) ⟨Nat.le_of_ble_eq_true rfl, Nat.le_of_ble_eq_true rfl⟩) (m_preV (ci := 5) hC hH F_6 rfl) rfl rfl hl.1 rfl (lv_room (Nat.le_of_ble_eq_true rfl)) dL_law_558 ⟨by show _ ≤ 600000; omega, by show _ ≤ 7302250; omega⟩) (fun r_3 rho_5 f_4 H locs hw hH => ?_)
  obtain ⟨hu_, a1_⟩ := hw
  have hu_ : f_4 = f := hu_
  rw [hu_] at hH
  try dsimp only at a1_
  refine lv_pop hx hb dL_law_561 rfl ?_
  refine lv_aload_n hx hb dL_law_562 rfl (lv_at hl 1 rfl) ?_
  refine lv_aload_n hx hb dL_law_563 rfl (lv_at hl 3 rfl) ?_
  refine lv_iload_n hx hb dL_law_564 rfl (lv_at hl 0 rfl) ?_
  refine lv_iconst (v := 1) hx hb dL_law_565 (by decide) ?_
  refine lv_iadd hx hb dL_law_566 ?_
  refine lv_topi (fun x_7 ex_7 => ?_)
  have ix_7 : x_7.toInt = i.toInt + 1 := ic_add ex_7 rfl kI_1 (by omega) (by omega)
  refine va_sld (i := x_7) hx hb hX hbl hbA hH.2.2 (vp_in_iff.mpr ⟨by omega, by omega⟩) dL_law_567 ?_
  rw [show x_7.toNatClampNeg = i.toNatClampNeg + 1 from by have := ic_clN (rfl : x_7.toInt = _) (by omega); have := ic_clN (rfl : i.toInt = _) (by omega); omega]
  refine lv_aload_n hx hb dL_law_568 rfl (lv_at hl 3 rfl) ?_
  refine lv_iload_n hx hb dL_law_569 rfl (lv_at hl 0 rfl) ?_
  refine lv_iconst (v := 2) hx hb dL_law_570 (by decide) ?_
  refine lv_iadd hx hb dL_law_571 ?_
  refine lv_topi (fun x_8 ex_8 => ?_)
  have ix_8 : x_8.toInt = i.toInt + 2 := ic_add ex_8 rfl kI_2 (by omega) (by omega)
  refine va_sld (i := x_8) hx hb hX hbl hbA hH.2.2 (vp_in_iff.mpr ⟨by omega, by omega⟩) dL_law_572 ?_
  rw [show x_8.toNatClampNeg = i.toNatClampNeg + 2 from by have := ic_clN (rfl : x_8.toInt = _) (by omega); have := ic_clN (rfl : i.toInt = _) (by omega); omega]
  obtain ⟨_, F_12⟩ := FM.c0 hF
  refine m_goi hH (va_runV (As := [.int (xs (i.toNatClampNeg + 1)), .int (xs (i.toNatClampNeg + 2))]) (rest := []) ⟨hx, hb, hml, hown, hts⟩ (c_X6_touched l G h n T z A hg ver cq fe tms ca wl wh ac th xm s_ f hF (xs (i.toNatClampNeg + 1)) (xs (i.toNatClampNeg + 2))) (cwV 2 hts gL_law_X6_touched rfl rfl rfl (by decide +kernel) ⟨Nat.le_of_ble_eq_true rfl, Nat.le_of_ble_eq_true rfl⟩) (m_preV (ci := 6) hC hH F_12 rfl) rfl rfl hl.1 rfl (lv_room (Nat.le_of_ble_eq_true rfl)) dL_law_573 ⟨by show _ ≤ 600000; omega, by show _ ≤ 7302250; omega⟩) (fun r_9 rho_11 f_10 H locs hw hH => ?_)
  obtain ⟨hu_, a2_⟩ := hw
  have hu_ : f_10 = f := hu_
  rw [hu_] at hH
  try dsimp only at a2_
  have er_ : r_3.toInt = r_9.toInt := by rw [a1_, a2_]
  have hJ := JI.mk hM hG hF
  refine lv_pop hx hb dL_law_576 rfl ?_
  refine lv_goto (tgt := 857) hx hb dL_law_577 (by decide) ?_
  obtain ⟨x_13, ex_13⟩ : ∃ y : Int32, y = i + 9 := ⟨_, rfl⟩
  have ix_13 : x_13.toInt = i.toInt + 9 := ic_add ex_13 rfl kI_9 (by omega) (by omega)
  refine lv_iinc (v := x_13) (lv' := [(3, .int x_13), (2, .ref (h 0)), (1, .ref (k 0)), (0, .ref b)]) hx hb dL_law_857 hl (k := 0) rfl (by rw [ex_13]; rfl) (by decide) rfl (fun ls hl => ?_)
  refine lv_goto (tgt := 18) hx hb dL_law_860 (by decide) ?_
  exact ih_ x_13 f rho (cl_ + 0 + 0) (sl_ + 0 + 0) (by omega) (by omega) hJ hro (by omega) (by omega) (by omega) _ _ _ hH (lv_sub hl [0, 1, 2, 3] rfl)
