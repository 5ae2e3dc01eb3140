set_option maxHeartbeats 40000000 in
set_option maxRecDepth 100000 in
theorem lw_c15 {p : Program} {e : Env} {s : State} {m : MethodId} {below : List Frame} {meth : Method} {c : Code} (l : Launch) {b L : Nat} {xs : Nat → Int32} (hL : L ≤ 4608) (G : mG) (hgN : gN G = s.heap.size) (hC : mC G s) (C0 : lw_At p s m meth c b L xs) (k h : Nat → Nat) (hsep : ∀ i j, i < 41 → j < 30 → k i ≠ h j) (hjk : ∀ j, j < 30 → rM j = false → h j = h 0) (N_ : Nat) (ih_ : lw_I p e s m below meth c l b L G k h N_) (i : Int32) (f : mF) (rho : tR) (cl_ sl_ : Nat) (h0_ : 0 ≤ i.toInt) (h1_ : i.toInt ≤ (L : Int) - 9) (hJ : JI G k h rho f) (hro : ∀ j, j < 30 → (rho (h j)).1 = 0) (hcl : 9 * (cl_ : Int) ≤ 549 + 228 * i.toInt) (hsl : 9 * (sl_ : Int) ≤ 766476 + 2204 * i.toInt) (hN_ : ((4617 : Int) - i.toInt).toNat < N_ + 1) (H : Heap) (locs : List Loc) (ls : Array Slot) (hH : mH G s f H locs) (hl : lv_has ls 4 [(3, .int i), (2, .ref (h 0)), (1, .ref (k 0)), (0, .ref b)]) : W p l e room_1 s m #[Value.ref b] below meth c H locs cl_ sl_ (lw_Z below #[Value.ref b] s) (F0 m 695 ls []) := by
  have C1 := C0
  obtain ⟨hx, hb, hr, hml, hown, hts0, hX, hbl, hlk, hgv⟩ := C0
  have hts : ∀ w ∈ wsL_law, w.before #[Value.ref b] s = true := fun w h => hts0 w (wsL_law_in w h)
  have hbA : ¬ mA G b := fun q => by have q : gN G ≤ b := q; omega
  have hLen : (Int32.ofNat L).toInt = (L : Int) := nI_toInt (by omega)
  obtain ⟨n, T, z, A, hg, ver, cq, fe, tms, ca, wl, wh, ac, th, xc, xm, s_, ⟨D, hM, hG⟩, hF⟩ := hJ
  refine lv_aload_n hx hb dL_law_695 rfl (lv_at hl 2 rfl) ?_
  refine lv_aload_n hx hb dL_law_696 rfl (lv_at hl 3 rfl) ?_
  refine lv_iload_n hx hb dL_law_697 rfl (lv_at hl 0 rfl) ?_
  refine lv_iconst (v := 1) hx hb dL_law_698 (by decide) ?_
  refine lv_iadd hx hb dL_law_699 ?_
  refine lv_topi (fun x_1 ex_1 => ?_)
  have ix_1 : x_1.toInt = i.toInt + 1 := ic_add ex_1 rfl kI_1 (by omega) (by omega)
  refine va_sld (i := x_1) hx hb hX hbl hbA hH.2.2 (vp_in_iff.mpr ⟨by omega, by omega⟩) dL_law_700 ?_
  rw [show x_1.toNatClampNeg = i.toNatClampNeg + 1 from by have := ic_clN (rfl : x_1.toInt = _) (by omega); have := ic_clN (rfl : i.toInt = _) (by omega); omega]
  refine lv_aload_n hx hb dL_law_701 rfl (lv_at hl 3 rfl) ?_
  refine lv_iload_n hx hb dL_law_702 rfl (lv_at hl 0 rfl) ?_
  refine lv_iconst (v := 2) hx hb dL_law_703 (by decide) ?_
  refine lv_iadd hx hb dL_law_704 ?_
  refine lv_topi (fun x_2 ex_2 => ?_)
  have ix_2 : x_2.toInt = i.toInt + 2 := ic_add ex_2 rfl kI_2 (by omega) (by omega)
  refine va_sld (i := x_2) hx hb hX hbl hbA hH.2.2 (vp_in_iff.mpr ⟨by omega, by omega⟩) dL_law_705 ?_
  rw [show x_2.toNatClampNeg = i.toNatClampNeg + 2 from by have := ic_clN (rfl : x_2.toInt = _) (by omega); have := ic_clN (rfl : i.toInt = _) (by omega); omega]
  refine lv_aload_n hx hb dL_law_706 rfl (lv_at hl 3 rfl) ?_
  refine lv_iload_n hx hb dL_law_707 rfl (lv_at hl 0 rfl) ?_
  refine lv_iconst (v := 3) hx hb dL_law_708 (by decide) ?_
  refine lv_iadd hx hb dL_law_709 ?_
  refine lv_topi (fun x_3 ex_3 => ?_)
  have ix_3 : x_3.toInt = i.toInt + 3 := ic_add ex_3 rfl kI_3 (by omega) (by omega)
  refine va_sld (i := x_3) hx hb hX hbl hbA hH.2.2 (vp_in_iff.mpr ⟨by omega, by omega⟩) dL_law_710 ?_
  rw [show x_3.toNatClampNeg = i.toNatClampNeg + 3 from by have := ic_clN (rfl : x_3.toInt = _) (by omega); have := ic_clN (rfl : i.toInt = _) (by omega); omega]
  refine lv_i2l hx hb dL_law_711 rfl ?_
  refine lv_bipush (v := 32) hx hb dL_law_712 (by decide) ?_
  refine lv_lshl hx hb dL_law_714 rfl ?_
  refine lv_aload_n hx hb dL_law_715 rfl (lv_at hl 3 rfl) ?_
  refine lv_iload_n hx hb dL_law_716 rfl (lv_at hl 0 rfl) ?_
  refine lv_iconst (v := 4) hx hb dL_law_717 (by decide) ?_
  refine lv_iadd hx hb dL_law_718 ?_
  refine lv_topi (fun x_4 ex_4 => ?_)
  have ix_4 : x_4.toInt = i.toInt + 4 := ic_add ex_4 rfl kI_4 (by omega) (by omega)
  refine va_sld (i := x_4) hx hb hX hbl hbA hH.2.2 (vp_in_iff.mpr ⟨by omega, by omega⟩) dL_law_719 ?_
  rw [show x_4.toNatClampNeg = i.toNatClampNeg + 4 from by have := ic_clN (rfl : x_4.toInt = _) (by omega); have := ic_clN (rfl : i.toInt = _) (by omega); omega]
  refine lv_i2l hx hb dL_law_720 rfl ?_
  refine lv_ldc2 (v := 4294967295) hx hb hown (hts (.constantLong RL 18 (4294967295)) (by decide +kernel)) dL_law_721 ?_
  refine lv_land hx hb dL_law_724 ?_
  refine lv_lor hx hb dL_law_725 ?_
  refine lv_topl (fun y_5 ey_5 => ?_)
  have F_9 := hM.c0
  refine m_goi hH (va_runV (As := [.int (xs (i.toNatClampNeg + 1)), .int (xs (i.toNatClampNeg + 2)), .long y_5]) (rest := []) ⟨hx, hb, hml, hown, hts⟩ (c_X5_all l G k rho n T z A hg ver cq fe tms ca wl wh ac th xc (ldS s_) (trS s_) (gfS s_) D f hM hG (xs (i.toNatClampNeg + 1)) (xs (i.toNatClampNeg + 2)) y_5) (cwV 3 hts gL_law_X5_all rfl rfl rfl (by decide +kernel) ⟨Nat.le_of_ble_eq_true rfl, Nat.le_of_ble_eq_true rfl⟩) (m_preV (ci := 5) hC hH F_9 rfl) rfl rfl hl.1 rfl (lv_room (Nat.le_of_ble_eq_true rfl)) dL_law_726 ⟨by show _ ≤ 600000; omega, by show _ ≤ 7302250; omega⟩) (fun r_6 rho_8 f_7 H locs hw hH => ?_)
  obtain ⟨hfr_, a1_, D_2, hM, hG⟩ := hw
  try dsimp only at a1_
  have hM : CM G k rho_8 n z D_2 f_7 := hM
  have hfr_ : frD rho f rho_8 f_7 := hfr_
  obtain ⟨hF, hro⟩ := FM.keep hF hjk hro hfr_
  refine lv_aload_n hx hb dL_law_729 rfl (lv_at hl 1 rfl) ?_
  refine lv_aload_n hx hb dL_law_730 rfl (lv_at hl 3 rfl) ?_
  refine lv_iload_n hx hb dL_law_731 rfl (lv_at hl 0 rfl) ?_
  refine lv_iconst (v := 1) hx hb dL_law_732 (by decide) ?_
  refine lv_iadd hx hb dL_law_733 ?_
  refine lv_topi (fun x_10 ex_10 => ?_)
  have ix_10 : x_10.toInt = i.toInt + 1 := ic_add ex_10 rfl kI_1 (by omega) (by omega)
  refine va_sld (i := x_10) hx hb hX hbl hbA hH.2.2 (vp_in_iff.mpr ⟨by omega, by omega⟩) dL_law_734 ?_
  rw [show x_10.toNatClampNeg = i.toNatClampNeg + 1 from by have := ic_clN (rfl : x_10.toInt = _) (by omega); have := ic_clN (rfl : i.toInt = _) (by omega); omega]
  refine lv_aload_n hx hb dL_law_735 rfl (lv_at hl 3 rfl) ?_
  refine lv_iload_n hx hb dL_law_736 rfl (lv_at hl 0 rfl) ?_
  refine lv_iconst (v := 2) hx hb dL_law_737 (by decide) ?_
  refine lv_iadd hx hb dL_law_738 ?_
  refine lv_topi (fun x_11 ex_11 => ?_)
  have ix_11 : x_11.toInt = i.toInt + 2 := ic_add ex_11 rfl kI_2 (by omega) (by omega)
  refine va_sld (i := x_11) hx hb hX hbl hbA hH.2.2 (vp_in_iff.mpr ⟨by omega, by omega⟩) dL_law_739 ?_
  rw [show x_11.toNatClampNeg = i.toNatClampNeg + 2 from by have := ic_clN (rfl : x_11.toInt = _) (by omega); have := ic_clN (rfl : i.toInt = _) (by omega); omega]
  refine lv_aload_n hx hb dL_law_740 rfl (lv_at hl 3 rfl) ?_
  refine lv_iload_n hx hb dL_law_741 rfl (lv_at hl 0 rfl) ?_
  refine lv_iconst (v := 3) hx hb dL_law_742 (by decide) ?_
  refine lv_iadd hx hb dL_law_743 ?_
  refine lv_topi (fun x_12 ex_12 => ?_)
  have ix_12 : x_12.toInt = i.toInt + 3 := ic_add ex_12 rfl kI_3 (by omega) (by omega)
  refine va_sld (i := x_12) hx hb hX hbl hbA hH.2.2 (vp_in_iff.mpr ⟨by omega, by omega⟩) dL_law_744 ?_
  rw [show x_12.toNatClampNeg = i.toNatClampNeg + 3 from by have := ic_clN (rfl : x_12.toInt = _) (by omega); have := ic_clN (rfl : i.toInt = _) (by omega); omega]
  refine lv_i2l hx hb dL_law_745 rfl ?_
  refine lv_bipush (v := 32) hx hb dL_law_746 (by decide) ?_
  refine lv_lshl hx hb dL_law_748 rfl ?_
  refine lv_aload_n hx hb dL_law_749 rfl (lv_at hl 3 rfl) ?_
  refine lv_iload_n hx hb dL_law_750 rfl (lv_at hl 0 rfl) ?_
  refine lv_iconst (v := 4) hx hb dL_law_751 (by decide) ?_
  refine lv_iadd hx hb dL_law_752 ?_
  refine lv_topi (fun x_13 ex_13 => ?_)
  have ix_13 : x_13.toInt = i.toInt + 4 := ic_add ex_13 rfl kI_4 (by omega) (by omega)
  refine va_sld (i := x_13) hx hb hX hbl hbA hH.2.2 (vp_in_iff.mpr ⟨by omega, by omega⟩) dL_law_753 ?_
  rw [show x_13.toNatClampNeg = i.toNatClampNeg + 4 from by have := ic_clN (rfl : x_13.toInt = _) (by omega); have := ic_clN (rfl : i.toInt = _) (by omega); omega]
  refine lv_i2l hx hb dL_law_754 rfl ?_
  refine lv_ldc2 (v := 4294967295) hx hb hown (hts (.constantLong RL 18 (4294967295)) (by decide +kernel)) dL_law_755 ?_
  refine lv_land hx hb dL_law_758 ?_
  refine lv_lor hx hb dL_law_759 ?_
  refine lv_topl (fun y_14 ey_14 => ?_)
  rw [show y_14 = y_5 from ey_14.trans ey_5.symm]
  obtain ⟨_, F_18⟩ := FM.c0 hF
  refine m_goi hH (va_runV (As := [.int (xs (i.toNatClampNeg + 1)), .int (xs (i.toNatClampNeg + 2)), .long y_5]) (rest := [.int r_6]) ⟨hx, hb, hml, hown, hts⟩ (c_X6_all l G h n T z A hg ver cq fe tms ca wl wh ac th xm s_ f_7 hF (xs (i.toNatClampNeg + 1)) (xs (i.toNatClampNeg + 2)) y_5) (cwV 3 hts gL_law_X6_all rfl rfl rfl (by decide +kernel) ⟨Nat.le_of_ble_eq_true rfl, Nat.le_of_ble_eq_true rfl⟩) (m_preV (ci := 6) hC hH F_18 rfl) rfl rfl hl.1 rfl (lv_room (Nat.le_of_ble_eq_true rfl)) dL_law_760 ⟨by show _ ≤ 600000; omega, by show _ ≤ 7302250; omega⟩) (fun r_15 rho_17 f_16 H locs hw hH => ?_)
  obtain ⟨hu_, a2_⟩ := hw
  have hu_ : f_16 = f_7 := hu_
  rw [hu_] at hH
  try dsimp only at a2_
  have er_ : r_6.toInt = r_15.toInt := by rw [a1_, a2_]
  have hJ := JI.mk hM hG hF
  refine lv_icmp_eq (tgt := 857) hx hb dL_law_763 (by decide) (fun c_19 => ?_) (fun c_19 => ?_)
  · skip
    have ic_19 : (r_6.toInt : Int) = r_15.toInt := ic_eq rfl rfl c_19
    obtain ⟨x_20, ex_20⟩ : ∃ y : Int32, y = i + 9 := ⟨_, rfl⟩
    have ix_20 : x_20.toInt = i.toInt + 9 := ic_add ex_20 rfl kI_9 (by omega) (by omega)
    refine lv_iinc (v := x_20) (lv' := [(3, .int x_20), (2, .ref (h 0)), (1, .ref (k 0)), (0, .ref b)]) hx hb dL_law_857 hl (k := 0) rfl (by rw [ex_20]; rfl) (by decide) rfl (fun ls hl => ?_)
    refine lv_goto (tgt := 18) hx hb dL_law_860 (by decide) ?_
    exact ih_ x_20 f_7 rho_8 (cl_ + 228 + 0) (sl_ + 2204 + 0) (by omega) (by omega) hJ hro (by omega) (by omega) (by omega) _ _ _ hH (lv_sub hl [0, 1, 2, 3] rfl)
  · skip
    have ic_19 : (r_6.toInt : Int) ≠ r_15.toInt := ic_ne rfl rfl c_19
    omega
