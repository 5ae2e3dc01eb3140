set_option maxHeartbeats 40000000 in
set_option maxRecDepth 100000 in
theorem lw_c16 {p : Program} {e : Env} {s : State} {m : MethodId} {below : List Frame} {meth : Method} {c : Code} (l : Launch) {b L : Nat} {xs : Nat → Int32} (hL : L ≤ 4608) (G : mG) (hgN : gN G = s.heap.size) (hC : mC G s) (C0 : lw_At p s m meth c b L xs) (k h : Nat → Nat) (hsep : ∀ i j, i < 41 → j < 30 → k i ≠ h j) (hjk : ∀ j, j < 30 → rM j = false → h j = h 0) (N_ : Nat) (ih_ : lw_I p e s m below meth c l b L G k h N_) (i : Int32) (f : mF) (rho : tR) (cl_ sl_ : Nat) (h0_ : 0 ≤ i.toInt) (h1_ : i.toInt ≤ (L : Int) - 9) (hJ : JI G k h rho f) (hro : ∀ j, j < 30 → (rho (h j)).1 = 0) (hcl : 9 * (cl_ : Int) ≤ 549 + 228 * i.toInt) (hsl : 9 * (sl_ : Int) ≤ 766476 + 2204 * i.toInt) (hN_ : ((4617 : Int) - i.toInt).toNat < N_ + 1) (H : Heap) (locs : List Loc) (ls : Array Slot) (hH : mH G s f H locs) (hl : lv_has ls 4 [(3, .int i), (2, .ref (h 0)), (1, .ref (k 0)), (0, .ref b)]) : W p l e room_1 s m #[Value.ref b] below meth c H locs cl_ sl_ (lw_Z below #[Value.ref b] s) (F0 m 768 ls []) := by
  have C1 := C0
  obtain ⟨hx, hb, hr, hml, hown, hts0, hX, hbl, hlk, hgv⟩ := C0
  have hts : ∀ w ∈ wsL_law, w.before #[Value.ref b] s = true := fun w h => hts0 w (wsL_law_in w h)
  have hbA : ¬ mA G b := fun q => by have q : gN G ≤ b := q; omega
  have hLen : (Int32.ofNat L).toInt = (L : Int) := nI_toInt (by omega)
  obtain ⟨n, T, z, A, hg, ver, cq, fe, tms, ca, wl, wh, ac, th, xc, xm, s_, ⟨D, hM, hG⟩, hF⟩ := hJ
  refine lv_aload_n hx hb dL_law_768 rfl (lv_at hl 2 rfl) ?_
  refine lv_aload_n hx hb dL_law_769 rfl (lv_at hl 3 rfl) ?_
  refine lv_iload_n hx hb dL_law_770 rfl (lv_at hl 0 rfl) ?_
  refine lv_iconst (v := 1) hx hb dL_law_771 (by decide) ?_
  refine lv_iadd hx hb dL_law_772 ?_
  refine lv_topi (fun x_1 ex_1 => ?_)
  have ix_1 : x_1.toInt = i.toInt + 1 := ic_add ex_1 rfl kI_1 (by omega) (by omega)
  refine va_sld (i := x_1) hx hb hX hbl hbA hH.2.2 (vp_in_iff.mpr ⟨by omega, by omega⟩) dL_law_773 ?_
  rw [show x_1.toNatClampNeg = i.toNatClampNeg + 1 from by have := ic_clN (rfl : x_1.toInt = _) (by omega); have := ic_clN (rfl : i.toInt = _) (by omega); omega]
  refine lv_aload_n hx hb dL_law_774 rfl (lv_at hl 3 rfl) ?_
  refine lv_iload_n hx hb dL_law_775 rfl (lv_at hl 0 rfl) ?_
  refine lv_iconst (v := 2) hx hb dL_law_776 (by decide) ?_
  refine lv_iadd hx hb dL_law_777 ?_
  refine lv_topi (fun x_2 ex_2 => ?_)
  have ix_2 : x_2.toInt = i.toInt + 2 := ic_add ex_2 rfl kI_2 (by omega) (by omega)
  refine va_sld (i := x_2) hx hb hX hbl hbA hH.2.2 (vp_in_iff.mpr ⟨by omega, by omega⟩) dL_law_778 ?_
  rw [show x_2.toNatClampNeg = i.toNatClampNeg + 2 from by have := ic_clN (rfl : x_2.toInt = _) (by omega); have := ic_clN (rfl : i.toInt = _) (by omega); omega]
  refine lv_aload_n hx hb dL_law_779 rfl (lv_at hl 3 rfl) ?_
  refine lv_iload_n hx hb dL_law_780 rfl (lv_at hl 0 rfl) ?_
  refine lv_iconst (v := 3) hx hb dL_law_781 (by decide) ?_
  refine lv_iadd hx hb dL_law_782 ?_
  refine lv_topi (fun x_3 ex_3 => ?_)
  have ix_3 : x_3.toInt = i.toInt + 3 := ic_add ex_3 rfl kI_3 (by omega) (by omega)
  refine va_sld (i := x_3) hx hb hX hbl hbA hH.2.2 (vp_in_iff.mpr ⟨by omega, by omega⟩) dL_law_783 ?_
  rw [show x_3.toNatClampNeg = i.toNatClampNeg + 3 from by have := ic_clN (rfl : x_3.toInt = _) (by omega); have := ic_clN (rfl : i.toInt = _) (by omega); omega]
  refine lv_aload_n hx hb dL_law_784 rfl (lv_at hl 3 rfl) ?_
  refine lv_iload_n hx hb dL_law_785 rfl (lv_at hl 0 rfl) ?_
  refine lv_iconst (v := 4) hx hb dL_law_786 (by decide) ?_
  refine lv_iadd hx hb dL_law_787 ?_
  refine lv_topi (fun x_4 ex_4 => ?_)
  have ix_4 : x_4.toInt = i.toInt + 4 := ic_add ex_4 rfl kI_4 (by omega) (by omega)
  refine va_sld (i := x_4) hx hb hX hbl hbA hH.2.2 (vp_in_iff.mpr ⟨by omega, by omega⟩) dL_law_788 ?_
  rw [show x_4.toNatClampNeg = i.toNatClampNeg + 4 from by have := ic_clN (rfl : x_4.toInt = _) (by omega); have := ic_clN (rfl : i.toInt = _) (by omega); omega]
  have F_8 := hM.c0
  refine m_gol hH (va_runV (As := [.int (xs (i.toNatClampNeg + 1)), .int (xs (i.toNatClampNeg + 2)), .int (xs (i.toNatClampNeg + 3)), .int (xs (i.toNatClampNeg + 4))]) (rest := []) ⟨hx, hb, hml, hown, hts⟩ (c_X5_view l G k rho n T z A hg ver cq fe tms ca wl wh ac th xc (ldS s_) (trS s_) (gfS s_) D f hM hG (xs (i.toNatClampNeg + 1)) (xs (i.toNatClampNeg + 2)) (xs (i.toNatClampNeg + 3)) (xs (i.toNatClampNeg + 4))) (cwV 4 hts gL_law_X5_view rfl rfl rfl (by decide +kernel) ⟨Nat.le_of_ble_eq_true rfl, Nat.le_of_ble_eq_true rfl⟩) (m_preV (ci := 5) hC hH F_8 rfl) rfl rfl hl.1 rfl (lv_room (Nat.le_of_ble_eq_true rfl)) dL_law_789 ⟨by show _ ≤ 600000; omega, by show _ ≤ 7302250; omega⟩) (fun r_5 rho_7 f_6 H locs hw hH => ?_)
  obtain ⟨hfr_, ho1_⟩ := hw
  try dsimp only at ho1_
  have hfr_ : frD rho f rho_7 f_6 := hfr_
  obtain ⟨hF, hro⟩ := FM.keep hF hjk hro hfr_
  refine lv_pop2_2 hx hb dL_law_792 rfl ?_
  refine lv_aload_n hx hb dL_law_793 rfl (lv_at hl 1 rfl) ?_
  refine lv_aload_n hx hb dL_law_794 rfl (lv_at hl 3 rfl) ?_
  refine lv_iload_n hx hb dL_law_795 rfl (lv_at hl 0 rfl) ?_
  refine lv_iconst (v := 1) hx hb dL_law_796 (by decide) ?_
  refine lv_iadd hx hb dL_law_797 ?_
  refine lv_topi (fun x_9 ex_9 => ?_)
  have ix_9 : x_9.toInt = i.toInt + 1 := ic_add ex_9 rfl kI_1 (by omega) (by omega)
  refine va_sld (i := x_9) hx hb hX hbl hbA hH.2.2 (vp_in_iff.mpr ⟨by omega, by omega⟩) dL_law_798 ?_
  rw [show x_9.toNatClampNeg = i.toNatClampNeg + 1 from by have := ic_clN (rfl : x_9.toInt = _) (by omega); have := ic_clN (rfl : i.toInt = _) (by omega); omega]
  refine lv_aload_n hx hb dL_law_799 rfl (lv_at hl 3 rfl) ?_
  refine lv_iload_n hx hb dL_law_800 rfl (lv_at hl 0 rfl) ?_
  refine lv_iconst (v := 2) hx hb dL_law_801 (by decide) ?_
  refine lv_iadd hx hb dL_law_802 ?_
  refine lv_topi (fun x_10 ex_10 => ?_)
  have ix_10 : x_10.toInt = i.toInt + 2 := ic_add ex_10 rfl kI_2 (by omega) (by omega)
  refine va_sld (i := x_10) hx hb hX hbl hbA hH.2.2 (vp_in_iff.mpr ⟨by omega, by omega⟩) dL_law_803 ?_
  rw [show x_10.toNatClampNeg = i.toNatClampNeg + 2 from by have := ic_clN (rfl : x_10.toInt = _) (by omega); have := ic_clN (rfl : i.toInt = _) (by omega); omega]
  refine lv_aload_n hx hb dL_law_804 rfl (lv_at hl 3 rfl) ?_
  refine lv_iload_n hx hb dL_law_805 rfl (lv_at hl 0 rfl) ?_
  refine lv_iconst (v := 3) hx hb dL_law_806 (by decide) ?_
  refine lv_iadd hx hb dL_law_807 ?_
  refine lv_topi (fun x_11 ex_11 => ?_)
  have ix_11 : x_11.toInt = i.toInt + 3 := ic_add ex_11 rfl kI_3 (by omega) (by omega)
  refine va_sld (i := x_11) hx hb hX hbl hbA hH.2.2 (vp_in_iff.mpr ⟨by omega, by omega⟩) dL_law_808 ?_
  rw [show x_11.toNatClampNeg = i.toNatClampNeg + 3 from by have := ic_clN (rfl : x_11.toInt = _) (by omega); have := ic_clN (rfl : i.toInt = _) (by omega); omega]
  refine lv_aload_n hx hb dL_law_809 rfl (lv_at hl 3 rfl) ?_
  refine lv_iload_n hx hb dL_law_810 rfl (lv_at hl 0 rfl) ?_
  refine lv_iconst (v := 4) hx hb dL_law_811 (by decide) ?_
  refine lv_iadd hx hb dL_law_812 ?_
  refine lv_topi (fun x_12 ex_12 => ?_)
  have ix_12 : x_12.toInt = i.toInt + 4 := ic_add ex_12 rfl kI_4 (by omega) (by omega)
  refine va_sld (i := x_12) hx hb hX hbl hbA hH.2.2 (vp_in_iff.mpr ⟨by omega, by omega⟩) dL_law_813 ?_
  rw [show x_12.toNatClampNeg = i.toNatClampNeg + 4 from by have := ic_clN (rfl : x_12.toInt = _) (by omega); have := ic_clN (rfl : i.toInt = _) (by omega); omega]
  obtain ⟨_, F_16⟩ := FM.c0 hF
  refine m_gol hH (va_runV (As := [.int (xs (i.toNatClampNeg + 1)), .int (xs (i.toNatClampNeg + 2)), .int (xs (i.toNatClampNeg + 3)), .int (xs (i.toNatClampNeg + 4))]) (rest := []) ⟨hx, hb, hml, hown, hts⟩ (c_X6_view l G h n T z A hg ver cq fe tms ca wl wh ac th xm s_ f_6 hF (xs (i.toNatClampNeg + 1)) (xs (i.toNatClampNeg + 2)) (xs (i.toNatClampNeg + 3)) (xs (i.toNatClampNeg + 4))) (cwV 4 hts gL_law_X6_view rfl rfl rfl (by decide +kernel) ⟨Nat.le_of_ble_eq_true rfl, Nat.le_of_ble_eq_true rfl⟩) (m_preV (ci := 6) hC hH F_16 rfl) rfl rfl hl.1 rfl (lv_room (Nat.le_of_ble_eq_true rfl)) dL_law_814 ⟨by show _ ≤ 600000; omega, by show _ ≤ 7302250; omega⟩) (fun r_13 rho_15 f_14 H locs hw hH => ?_)
  obtain ⟨hfr_, ho2_⟩ := hw
  try dsimp only at ho2_
  have hfr_ : frM h f_6 f_14 := hfr_
  obtain ⟨er_, hJ⟩ := join_view2 ho1_ ho2_ (fun _ _ _ q_ => q_.keep hro hfr_)
  have er_ : r_5.toInt = r_13.toInt := congrArg Int64.toInt er_
  refine lv_pop2_2 hx hb dL_law_817 rfl ?_
  refine lv_goto (tgt := 857) hx hb dL_law_818 (by decide) ?_
  obtain ⟨x_17, ex_17⟩ : ∃ y : Int32, y = i + 9 := ⟨_, rfl⟩
  have ix_17 : x_17.toInt = i.toInt + 9 := ic_add ex_17 rfl kI_9 (by omega) (by omega)
  refine lv_iinc (v := x_17) (lv' := [(3, .int x_17), (2, .ref (h 0)), (1, .ref (k 0)), (0, .ref b)]) hx hb dL_law_857 hl (k := 0) rfl (by rw [ex_17]; rfl) (by decide) rfl (fun ls hl => ?_)
  refine lv_goto (tgt := 18) hx hb dL_law_860 (by decide) ?_
  exact ih_ x_17 f_14 rho_7 (cl_ + 0 + 0) (sl_ + 0 + 0) (by omega) (by omega) hJ hro (by omega) (by omega) (by omega) _ _ _ hH (lv_sub hl [0, 1, 2, 3] rfl)
