set_option maxHeartbeats 4000000 in
set_option maxRecDepth 100000 in
theorem c_X6_leafOf (l : Launch) (G : mG) (h : Nat → Nat) (n : Nat) (T : Nat → Int32) (z : Nat → Nat) (A : Nat → tA) (f : mF) (hI : IM G h n T z A f) (hn0 : 0 < n) (hd : Int32) (jj : Int64) (st : Int32) (hh_ : 0 ≤ hd.toInt ∧ hd.toInt < 4) (hj0 : 0 ≤ jj.toInt ∧ jj.toInt < 8) : Met l yX6_leafOf wsX6_leafOf ({ frames := 1, cells := 0, slots := 0, locals := 21 }) (va_Pc [.ref (h 0), .int hd, .long jj, .int st] (mW G f)) (va_Qi (fun (r : Int32) (u : mS) => IM G h n T z A u.2 ∧ frM h f u.2 ∧ kpM h f u.2 ∧ ((r.toInt = -1 ∧ ∃ x : Int32, fldV u.2 (h 0) 28 = .int x ∧ x.toInt ≠ 0) ∨ ∃ o j : Int, r.toInt = 8 * o + j ∧ 0 ≤ o ∧ o < n ∧ 0 ≤ j ∧ j < 8 ∧ srtM (T o.toNat).toInt j = st.toInt)) (fun (u : mS) t => mW G u.2 t) (mA G)) 0 0 (mA G) := by
  refine mMet [.ref (h 0), .int hd, .long jj, .int st] (cc := cX6_leafOf) (maxL := 6) (ret := (some .int)) (by decide) rfl (Nat.le_of_ble_eq_true rfl) ?_
  intro p e s m below meth c ls hx hb hr hml hts hown hlk hnm hC hH hl
  have hl : lv_has ls 6 [(0, .ref (h 0)), (1, .int hd), (2, .long jj), (4, .int st)] := hl
  have hj := hI.2.2.1
  have hn24 := hI.2.2.2.1
  have nIn : (nI n).toInt = (n : Int) := nI_toInt (by omega)
  have hfr : frM h f f := frM.rf
  have hkp : kpM h f f := kpM.rf
  refine lv_aload_n hx hb dX6_leafOf_0 rfl (lv_at hl 0 rfl) ?_
  obtain ⟨he_1, fe_1, ca_1, ga_1, wh_1, tm_1, wm_1, ac_1, th_1, st_1, F_1, b1_1, b2_1, b3_1, b4_1, b5_1, b6_1, b7_1, b8_1⟩ : okM0 h n (f (h 0)) := hI.1 0 (by decide)
  refine m_get (ci := 6) (v := .ref (h 26)) (C := RX6) (T := TX6) (N := 30) hx hb hC hH hts in_X6_leafOf_X6 hown F_1 rfl 26 (by decide) (hts (.fieldLink RX6 68 "LazyStateModel" "handles" "[I") (by decide +kernel)) rfl dX6_leafOf_1 ?_
  refine lv_iload_n hx hb dX6_leafOf_4 rfl (lv_at hl 1 rfl) ?_
  obtain ⟨g_2, hg_2, hp_2⟩ : okI G 0 4 (fun g => ∀ i, i < 4 → -3 ≤ (g i).toInt ∧ ((g i).toInt < n ∨ (n = 0 ∧ (g i).toInt = 0))) (f (h 26)) := hI.1 26 (by decide)
  refine m_iald hx hb hC hH hg_2 (vp_in_iff.mpr ⟨by omega, by omega⟩) dX6_leafOf_5 ?_
  refine lv_topi (fun x_3 ex_3 => ?_)
  have qx_3 := hp_2 (hd.toNatClampNeg) (ic_cl rfl (by omega) (by omega))
  rw [← ex_3] at qx_3
  obtain ⟨q1x_3, q2x_3⟩ := qx_3
  refine lv_istore (lv' := [(5, .int x_3), (0, .ref (h 0)), (1, .int hd), (2, .long jj), (4, .int st)]) hx hb dX6_leafOf_6 hl (by decide) rfl (fun ls hl => ?_)
  refine lv_iload hx hb dX6_leafOf_8 (lv_at hl 0 rfl) ?_
  refine lv_if_ge (tgt := 20) hx hb dX6_leafOf_10 (by decide) (fun c_4 => ?_) (fun c_4 => ?_)
  · skip
    have ic_4 : (0 : Int) ≤ x_3.toInt := ic_le kI_0 rfl c_4
    refine lv_aload_n hx hb dX6_leafOf_20 rfl (lv_at hl 1 rfl) ?_
    refine lv_iload hx hb dX6_leafOf_21 (lv_at hl 0 rfl) ?_
    refine m_gov hH (va_runV (As := [.int x_3]) (rest := []) ⟨hx, hb, hml, hown, hts⟩ (c_X6_load l G h n T z A f hI x_3 (by omega)) (cwV 1 hts gX6_leafOf_X6_load rfl rfl rfl (by decide +kernel) ⟨Nat.le_of_ble_eq_true rfl, Nat.le_of_ble_eq_true rfl⟩) (m_preV (ci := 6) hC hH F_1 rfl) rfl rfl hl.1 rfl (lv_room (Nat.le_of_ble_eq_true rfl)) dX6_leafOf_23 ⟨Nat.le_of_ble_eq_true rfl, Nat.le_of_ble_eq_true rfl⟩) (fun rho_7 f_6 H locs hw hH => ?_)
    obtain ⟨hI, hfr1, hkp1⟩ := hw
    have hI : IM G h n T z A f_6 := hI
    have hfr1 : frM h f f_6 := hfr1
    have hkp1 : kpM h f f_6 := hkp1
    have hfr := hfr.trans hfr1
    have hkp := hkp.trans hkp1
    obtain ⟨he_8, fe_8, ca_8, ga_8, wh_8, tm_8, wm_8, ac_8, th_8, st_8, F_8, b1_8, b2_8, b3_8, b4_8, b5_8, b6_8, b7_8, b8_8⟩ : okM0 h n (f_6 (h 0)) := hI.1 0 (by decide)
    have kk_wm_8 : wm_8.toInt = wm_1.toInt := (congrArg Int32.toInt (show wm_8 = wm_1 from Value.int.inj (by have q := hkp1.1; rw [fldV_eq F_8, fldV_eq F_1] at q; exact q))).trans rfl
    have kk_ac_8 : ac_8.toInt = ac_1.toInt := (congrArg Int32.toInt (show ac_8 = ac_1 from Value.int.inj (by have q := hkp1.2.1; rw [fldV_eq F_8, fldV_eq F_1] at q; exact q))).trans rfl
    have kk_he_8 : he_8.toInt = he_1.toInt := (congrArg Int32.toInt (show he_8 = he_1 from Value.int.inj (by have q := hkp1.2.2; rw [fldV_eq F_8, fldV_eq F_1] at q; exact q))).trans rfl
    refine lv_lload_n hx hb dX6_leafOf_26 rfl (lv_at hl 3 rfl) ?_
    refine lv_aload_n hx hb dX6_leafOf_27 rfl (lv_at hl 1 rfl) ?_
    refine m_get (ci := 6) (v := .ref (h 1)) (C := RX6) (T := TX6) (N := 30) hx hb hC hH hts in_X6_leafOf_X6 hown F_8 rfl 1 (by decide) (hts (.fieldLink RX6 7 "LazyStateModel" "types" "[I") (by decide +kernel)) rfl dX6_leafOf_28 ?_
    refine lv_iload hx hb dX6_leafOf_31 (lv_at hl 0 rfl) ?_
    obtain ⟨g_9, hg_9, hp_9⟩ : okI G 0 24 (fun g => ∀ o, o < n → g o = T o) (f_6 (h 1)) := hI.1 1 (by decide)
    refine m_iald hx hb hC hH hg_9 (vp_in_iff.mpr ⟨by omega, by omega⟩) dX6_leafOf_33 ?_
    refine lv_topi (fun x_10 ex_10 => ?_)
    have tx_10 : x_10 = T x_3.toNatClampNeg := by rw [ex_10]; exact hp_9 (x_3.toNatClampNeg) (ic_cl rfl (by omega) (by omega))
    refine m_goi hH (va_runS (As := [.int x_10]) (rest := [.long jj]) ⟨hx, hb, hml, hown, hts⟩ (c_X6_fieldsOf l G f_6 x_10) (va_cwS 1 hts gX6_leafOf_X6_fieldsOf rfl rfl rfl (by decide +kernel) ⟨Nat.le_of_ble_eq_true rfl, Nat.le_of_ble_eq_true rfl⟩) (m_preS hC hH) rfl rfl hl.1 rfl (lv_room (Nat.le_of_ble_eq_true rfl)) dX6_leafOf_34 ⟨Nat.le_of_ble_eq_true rfl, Nat.le_of_ble_eq_true rfl⟩) (fun r_11 rho_13 f_12 H locs hw hH => ?_)
    obtain ⟨hu, hr_11⟩ := hw
    have hu : f_12 = f_6 := hu
    rw [hu] at hH
    have br_11 : 3 ≤ r_11.toInt ∧ r_11.toInt ≤ 6 := by rw [hr_11]; unfold fldM; (repeat' split) <;> omega
    refine lv_i2l hx hb dX6_leafOf_37 rfl ?_
    refine lv_topl (fun y_14 ey_14 => ?_)
    have iy_14 : y_14.toInt = r_11.toInt := lc_i2l ey_14 rfl
    have gy_14 := ic_rng r_11
    refine W.lcmp hx hb dX6_leafOf_38 ?_
    refine lv_if_lt (tgt := 49) hx hb dX6_leafOf_39 (by decide) (fun c_15 => ?_) (fun c_15 => ?_)
    · skip
      have ic_15 : (jj.toInt : Int) < y_14.toInt := lc_lt rfl rfl ((lg_cmp_lt _ _).mp c_15)
      refine lv_aload_n hx hb dX6_leafOf_49 rfl (lv_at hl 1 rfl) ?_
      refine m_get (ci := 6) (v := .ref (h 1)) (C := RX6) (T := TX6) (N := 30) hx hb hC hH hts in_X6_leafOf_X6 hown F_8 rfl 1 (by decide) (hts (.fieldLink RX6 7 "LazyStateModel" "types" "[I") (by decide +kernel)) rfl dX6_leafOf_50 ?_
      refine lv_iload hx hb dX6_leafOf_53 (lv_at hl 0 rfl) ?_
      refine m_iald hx hb hC hH hg_9 (vp_in_iff.mpr ⟨by omega, by omega⟩) dX6_leafOf_55 ?_
      refine lv_topi (fun x_16 ex_16 => ?_)
      have tx_16 : x_16 = T x_3.toNatClampNeg := by rw [ex_16]; exact hp_9 (x_3.toNatClampNeg) (ic_cl rfl (by omega) (by omega))
      refine lv_lload_n hx hb dX6_leafOf_56 rfl (lv_at hl 3 rfl) ?_
      refine lv_l2i hx hb dX6_leafOf_57 rfl ?_
      refine lv_topi (fun x_17 ex_17 => ?_)
      have ix_17 : x_17.toInt = jj.toInt := ic_l2i ex_17 rfl (by omega) (by omega)
      refine m_goi hH (va_runS (As := [.int x_16, .int x_17]) (rest := []) ⟨hx, hb, hml, hown, hts⟩ (c_X6_sortOf l G f_6 x_16 x_17) (va_cwS 2 hts gX6_leafOf_X6_sortOf rfl rfl rfl (by decide +kernel) ⟨Nat.le_of_ble_eq_true rfl, Nat.le_of_ble_eq_true rfl⟩) (m_preS hC hH) rfl rfl hl.1 rfl (lv_room (Nat.le_of_ble_eq_true rfl)) dX6_leafOf_58 ⟨Nat.le_of_ble_eq_true rfl, Nat.le_of_ble_eq_true rfl⟩) (fun r_18 rho_20 f_19 H locs hw hH => ?_)
      obtain ⟨hu, hr_18⟩ := hw
      have hu : f_19 = f_6 := hu
      rw [hu] at hH
      refine lv_iload hx hb dX6_leafOf_61 (lv_at hl 4 rfl) ?_
      refine lv_icmp_eq (tgt := 73) hx hb dX6_leafOf_63 (by decide) (fun c_21 => ?_) (fun c_21 => ?_)
      · skip
        have ic_21 : (r_18.toInt : Int) = st.toInt := ic_eq rfl rfl c_21
        refine lv_bipush (v := 8) hx hb dX6_leafOf_73 (by decide) ?_
        refine lv_iload hx hb dX6_leafOf_75 (lv_at hl 0 rfl) ?_
        refine lv_imul hx hb dX6_leafOf_77 ?_
        refine lv_topi (fun x_22 ex_22 => ?_)
        have ix_22 : x_22.toInt = 8 * x_3.toInt := ic_mul ex_22 kI_8 rfl (by omega) (by omega)
        refine lv_lload_n hx hb dX6_leafOf_78 rfl (lv_at hl 3 rfl) ?_
        refine lv_l2i hx hb dX6_leafOf_79 rfl ?_
        refine lv_topi (fun x_23 ex_23 => ?_)
        have ix_23 : x_23.toInt = jj.toInt := ic_l2i ex_23 rfl (by omega) (by omega)
        refine lv_iadd hx hb dX6_leafOf_80 ?_
        refine lv_topi (fun x_24 ex_24 => ?_)
        have ix_24 : x_24.toInt = x_22.toInt + x_23.toInt := ic_add ex_24 rfl rfl (by omega) (by omega)
        exact m_iret (v := x_24) hx hb hr hlk hC hH (fun _ => (0, 0)) ⟨hI, hfr, hkp, Or.inr ⟨x_3.toInt, jj.toInt, by omega, by omega, by omega, by omega, by omega, by rw [show T (x_3.toInt).toNat = x_16 from tx_16.symm, show jj.toInt = x_17.toInt from by omega]; omega⟩⟩ (Nat.le_of_ble_eq_true rfl) (Nat.le_of_ble_eq_true rfl) dX6_leafOf_81
      · skip
        have ic_21 : (r_18.toInt : Int) ≠ st.toInt := ic_ne rfl rfl c_21
        refine lv_aload_n hx hb dX6_leafOf_66 rfl (lv_at hl 1 rfl) ?_
        refine lv_iconst (v := 2) hx hb dX6_leafOf_67 (by decide) ?_
        refine m_put (ci := 6) (v := .int 2) (C := RX6) (T := TX6) (N := 30) hx hb hC hH hts in_X6_leafOf_X6 tyX6 tyX6_ok nmX6 hown F_8 rfl 28 (by decide) (hts (.fieldLink RX6 155 "LazyStateModel" "threw" "I") (by decide +kernel)) rfl rfl rfl (Nat.le_of_ble_eq_true rfl) dX6_leafOf_68 (fun H locs hH => ?_)
        have hH : mH G s (va_up f_6 (h 0) (some (.inr (6, [.int (nI n), .ref (h 1), .int he_8, .ref (h 3), .ref (h 4), .ref (h 5), .ref (h 6), .int fe_8, .ref (h 8), .ref (h 9), .ref (h 10), .ref (h 11), .ref (h 12), .ref (h 13), .ref (h 14), .ref (h 15), .int ca_8, .long ga_8, .int wh_8, .int tm_8, .ref (h 20), .ref (h 21), .int wm_8, .ref (h 23), .ref (h 24), .int ac_8, .ref (h 26), .ref (h 27), .int 2, .int st_8])))) H locs := hH
        obtain ⟨f_25, ef_25⟩ : ∃ zz_ : mF, zz_ = va_up f_6 (h 0) (some (.inr (6, [.int (nI n), .ref (h 1), .int he_8, .ref (h 3), .ref (h 4), .ref (h 5), .ref (h 6), .int fe_8, .ref (h 8), .ref (h 9), .ref (h 10), .ref (h 11), .ref (h 12), .ref (h 13), .ref (h 14), .ref (h 15), .int ca_8, .long ga_8, .int wh_8, .int tm_8, .ref (h 20), .ref (h 21), .int wm_8, .ref (h 23), .ref (h 24), .int ac_8, .ref (h 26), .ref (h 27), .int 2, .int st_8]))) := ⟨_, rfl⟩
        rw [← ef_25] at hH
        have F_26 : f_25 (h 0) = some (.inr (6, [.int (nI n), .ref (h 1), .int he_8, .ref (h 3), .ref (h 4), .ref (h 5), .ref (h 6), .int fe_8, .ref (h 8), .ref (h 9), .ref (h 10), .ref (h 11), .ref (h 12), .ref (h 13), .ref (h 14), .ref (h 15), .int ca_8, .long ga_8, .int wh_8, .int tm_8, .ref (h 20), .ref (h 21), .int wm_8, .ref (h 23), .ref (h 24), .int ac_8, .ref (h 26), .ref (h 27), .int 2, .int st_8])) := by rw [ef_25]; exact va_up_self _ _ _
        have hI : IM G h n T z A f_25 := hI.obj F_8 ef_25 rfl ⟨_, _, _, _, _, _, _, _, _, _, rfl, by have := True.intro; have := True.intro; have := True.intro; have := True.intro; omega, by have := True.intro; have := True.intro; have := True.intro; have := True.intro; omega, by have := True.intro; have := True.intro; have := True.intro; have := True.intro; omega, by have := True.intro; have := True.intro; have := True.intro; have := True.intro; omega, by have := True.intro; have := True.intro; have := True.intro; have := True.intro; omega, by have := True.intro; have := True.intro; have := True.intro; have := True.intro; omega, by have := True.intro; have := True.intro; have := True.intro; have := True.intro; omega, by have := True.intro; have := True.intro; have := True.intro; have := True.intro; omega⟩
        have hfr := hfr.up 0 (by decide) ef_25
        have hkp := hkp.obj F_8 F_26 rfl rfl rfl
        have hg_27 := upk hg_9 ef_25 (neM hj (by decide) (by decide) (by decide))
        refine lv_iconst (v := (-1)) hx hb dX6_leafOf_71 (by decide) ?_
        exact m_iret (v := (-1)) hx hb hr hlk hC hH (fun _ => (0, 0)) ⟨hI, hfr, hkp, Or.inl ⟨kI_m1, _, fldV_eq F_26 28, by have := kI_2; omega⟩⟩ (Nat.le_of_ble_eq_true rfl) (Nat.le_of_ble_eq_true rfl) dX6_leafOf_72
    · skip
      have ic_15 : (jj.toInt : Int) ≥ y_14.toInt := lc_nlt rfl rfl (fun q_ => c_15 ((lg_cmp_lt _ _).mpr q_))
      refine lv_aload_n hx hb dX6_leafOf_42 rfl (lv_at hl 1 rfl) ?_
      refine lv_iconst (v := 3) hx hb dX6_leafOf_43 (by decide) ?_
      refine m_put (ci := 6) (v := .int 3) (C := RX6) (T := TX6) (N := 30) hx hb hC hH hts in_X6_leafOf_X6 tyX6 tyX6_ok nmX6 hown F_8 rfl 28 (by decide) (hts (.fieldLink RX6 155 "LazyStateModel" "threw" "I") (by decide +kernel)) rfl rfl rfl (Nat.le_of_ble_eq_true rfl) dX6_leafOf_44 (fun H locs hH => ?_)
      have hH : mH G s (va_up f_6 (h 0) (some (.inr (6, [.int (nI n), .ref (h 1), .int he_8, .ref (h 3), .ref (h 4), .ref (h 5), .ref (h 6), .int fe_8, .ref (h 8), .ref (h 9), .ref (h 10), .ref (h 11), .ref (h 12), .ref (h 13), .ref (h 14), .ref (h 15), .int ca_8, .long ga_8, .int wh_8, .int tm_8, .ref (h 20), .ref (h 21), .int wm_8, .ref (h 23), .ref (h 24), .int ac_8, .ref (h 26), .ref (h 27), .int 3, .int st_8])))) H locs := hH
      obtain ⟨f_28, ef_28⟩ : ∃ zz_ : mF, zz_ = va_up f_6 (h 0) (some (.inr (6, [.int (nI n), .ref (h 1), .int he_8, .ref (h 3), .ref (h 4), .ref (h 5), .ref (h 6), .int fe_8, .ref (h 8), .ref (h 9), .ref (h 10), .ref (h 11), .ref (h 12), .ref (h 13), .ref (h 14), .ref (h 15), .int ca_8, .long ga_8, .int wh_8, .int tm_8, .ref (h 20), .ref (h 21), .int wm_8, .ref (h 23), .ref (h 24), .int ac_8, .ref (h 26), .ref (h 27), .int 3, .int st_8]))) := ⟨_, rfl⟩
      rw [← ef_28] at hH
      have F_29 : f_28 (h 0) = some (.inr (6, [.int (nI n), .ref (h 1), .int he_8, .ref (h 3), .ref (h 4), .ref (h 5), .ref (h 6), .int fe_8, .ref (h 8), .ref (h 9), .ref (h 10), .ref (h 11), .ref (h 12), .ref (h 13), .ref (h 14), .ref (h 15), .int ca_8, .long ga_8, .int wh_8, .int tm_8, .ref (h 20), .ref (h 21), .int wm_8, .ref (h 23), .ref (h 24), .int ac_8, .ref (h 26), .ref (h 27), .int 3, .int st_8])) := by rw [ef_28]; exact va_up_self _ _ _
      have hI : IM G h n T z A f_28 := hI.obj F_8 ef_28 rfl ⟨_, _, _, _, _, _, _, _, _, _, rfl, by have := True.intro; have := True.intro; have := True.intro; have := True.intro; omega, by have := True.intro; have := True.intro; have := True.intro; have := True.intro; omega, by have := True.intro; have := True.intro; have := True.intro; have := True.intro; omega, by have := True.intro; have := True.intro; have := True.intro; have := True.intro; omega, by have := True.intro; have := True.intro; have := True.intro; have := True.intro; omega, by have := True.intro; have := True.intro; have := True.intro; have := True.intro; omega, by have := True.intro; have := True.intro; have := True.intro; have := True.intro; omega, by have := True.intro; have := True.intro; have := True.intro; have := True.intro; omega⟩
      have hfr := hfr.up 0 (by decide) ef_28
      have hkp := hkp.obj F_8 F_29 rfl rfl rfl
      have hg_30 := upk hg_9 ef_28 (neM hj (by decide) (by decide) (by decide))
      refine lv_iconst (v := (-1)) hx hb dX6_leafOf_47 (by decide) ?_
      exact m_iret (v := (-1)) hx hb hr hlk hC hH (fun _ => (0, 0)) ⟨hI, hfr, hkp, Or.inl ⟨kI_m1, _, fldV_eq F_29 28, by have := kI_3; omega⟩⟩ (Nat.le_of_ble_eq_true rfl) (Nat.le_of_ble_eq_true rfl) dX6_leafOf_48
  · skip
    have ic_4 : (0 : Int) > x_3.toInt := ic_nle kI_0 rfl c_4
    refine lv_aload_n hx hb dX6_leafOf_13 rfl (lv_at hl 1 rfl) ?_
    refine lv_iconst (v := 1) hx hb dX6_leafOf_14 (by decide) ?_
    refine m_put (ci := 6) (v := .int 1) (C := RX6) (T := TX6) (N := 30) hx hb hC hH hts in_X6_leafOf_X6 tyX6 tyX6_ok nmX6 hown F_1 rfl 28 (by decide) (hts (.fieldLink RX6 155 "LazyStateModel" "threw" "I") (by decide +kernel)) rfl rfl rfl (Nat.le_of_ble_eq_true rfl) dX6_leafOf_15 (fun H locs hH => ?_)
    have hH : mH G s (va_up f (h 0) (some (.inr (6, [.int (nI n), .ref (h 1), .int he_1, .ref (h 3), .ref (h 4), .ref (h 5), .ref (h 6), .int fe_1, .ref (h 8), .ref (h 9), .ref (h 10), .ref (h 11), .ref (h 12), .ref (h 13), .ref (h 14), .ref (h 15), .int ca_1, .long ga_1, .int wh_1, .int tm_1, .ref (h 20), .ref (h 21), .int wm_1, .ref (h 23), .ref (h 24), .int ac_1, .ref (h 26), .ref (h 27), .int 1, .int st_1])))) H locs := hH
    obtain ⟨f_31, ef_31⟩ : ∃ zz_ : mF, zz_ = va_up f (h 0) (some (.inr (6, [.int (nI n), .ref (h 1), .int he_1, .ref (h 3), .ref (h 4), .ref (h 5), .ref (h 6), .int fe_1, .ref (h 8), .ref (h 9), .ref (h 10), .ref (h 11), .ref (h 12), .ref (h 13), .ref (h 14), .ref (h 15), .int ca_1, .long ga_1, .int wh_1, .int tm_1, .ref (h 20), .ref (h 21), .int wm_1, .ref (h 23), .ref (h 24), .int ac_1, .ref (h 26), .ref (h 27), .int 1, .int st_1]))) := ⟨_, rfl⟩
    rw [← ef_31] at hH
    have F_32 : f_31 (h 0) = some (.inr (6, [.int (nI n), .ref (h 1), .int he_1, .ref (h 3), .ref (h 4), .ref (h 5), .ref (h 6), .int fe_1, .ref (h 8), .ref (h 9), .ref (h 10), .ref (h 11), .ref (h 12), .ref (h 13), .ref (h 14), .ref (h 15), .int ca_1, .long ga_1, .int wh_1, .int tm_1, .ref (h 20), .ref (h 21), .int wm_1, .ref (h 23), .ref (h 24), .int ac_1, .ref (h 26), .ref (h 27), .int 1, .int st_1])) := by rw [ef_31]; exact va_up_self _ _ _
    have hI : IM G h n T z A f_31 := hI.obj F_1 ef_31 rfl ⟨_, _, _, _, _, _, _, _, _, _, rfl, by have := True.intro; have := True.intro; have := True.intro; have := True.intro; omega, by have := True.intro; have := True.intro; have := True.intro; have := True.intro; omega, by have := True.intro; have := True.intro; have := True.intro; have := True.intro; omega, by have := True.intro; have := True.intro; have := True.intro; have := True.intro; omega, by have := True.intro; have := True.intro; have := True.intro; have := True.intro; omega, by have := True.intro; have := True.intro; have := True.intro; have := True.intro; omega, by have := True.intro; have := True.intro; have := True.intro; have := True.intro; omega, by have := True.intro; have := True.intro; have := True.intro; have := True.intro; omega⟩
    have hfr := hfr.up 0 (by decide) ef_31
    have hkp := hkp.obj F_1 F_32 rfl rfl rfl
    have hg_33 := upk hg_2 ef_31 (neM hj (by decide) (by decide) (by decide))
    refine lv_iconst (v := (-1)) hx hb dX6_leafOf_18 (by decide) ?_
    exact m_iret (v := (-1)) hx hb hr hlk hC hH (fun _ => (0, 0)) ⟨hI, hfr, hkp, Or.inl ⟨kI_m1, _, fldV_eq F_32 28, by have := kI_1; omega⟩⟩ (Nat.le_of_ble_eq_true rfl) (Nat.le_of_ble_eq_true rfl) dX6_leafOf_19
set_option maxHeartbeats 4000000 in
set_option maxRecDepth 100000 in
theorem c_X6_readLeaf (l : Launch) (G : mG) (h : Nat → Nat) (n : Nat) (T : Nat → Int32) (z : Nat → Nat) (A : Nat → tA) (f : mF) (hI : IM G h n T z A f) (hn0 : 0 < n) (hd : Int32) (jj : Int64) (st : Int32) (hh_ : 0 ≤ hd.toInt ∧ hd.toInt < 4) (hj0 : 0 ≤ jj.toInt ∧ jj.toInt < 8) : Met l yX6_readLeaf wsX6_readLeaf ({ frames := 2, cells := 0, slots := 0, locals := 46 }) (va_Pc [.ref (h 0), .int hd, .long jj, .int st] (mW G f)) (va_Qi (fun (r : Int32) (u : mS) => IM G h n T z A u.2 ∧ frM h f u.2 ∧ kpM h f u.2 ∧ ((r.toInt = -1 ∧ ∃ x : Int32, fldV u.2 (h 0) 28 = .int x ∧ x.toInt ≠ 0) ∨ ∃ o j : Int, r.toInt = 8 * o + j ∧ 0 ≤ o ∧ o < n ∧ 0 ≤ j ∧ j < 8 ∧ srtM (T o.toNat).toInt j = st.toInt)) (fun (u : mS) t => mW G u.2 t) (mA G)) 0 0 (mA G) := by
  refine mMet [.ref (h 0), .int hd, .long jj, .int st] (cc := cX6_readLeaf) (maxL := 6) (ret := (some .int)) (by decide) rfl (Nat.le_of_ble_eq_true rfl) ?_
  intro p e s m below meth c ls hx hb hr hml hts hown hlk hnm hC hH hl
  have hl : lv_has ls 6 [(0, .ref (h 0)), (1, .int hd), (2, .long jj), (4, .int st)] := hl
  have hj := hI.2.2.1
  have hn24 := hI.2.2.2.1
  have nIn : (nI n).toInt = (n : Int) := nI_toInt (by omega)
  have hfr : frM h f f := frM.rf
  have hkp : kpM h f f := kpM.rf
  refine lv_aload_n hx hb dX6_readLeaf_0 rfl (lv_at hl 0 rfl) ?_
  refine lv_iload_n hx hb dX6_readLeaf_1 rfl (lv_at hl 1 rfl) ?_
  refine lv_lload_n hx hb dX6_readLeaf_2 rfl (lv_at hl 2 rfl) ?_
  refine lv_iload hx hb dX6_readLeaf_3 (lv_at hl 3 rfl) ?_
  obtain ⟨he_1, fe_1, ca_1, ga_1, wh_1, tm_1, wm_1, ac_1, th_1, st_1, F_1, b1_1, b2_1, b3_1, b4_1, b5_1, b6_1, b7_1, b8_1⟩ : okM0 h n (f (h 0)) := hI.1 0 (by decide)
  refine m_goi hH (va_runV (As := [.int hd, .long jj, .int st]) (rest := []) ⟨hx, hb, hml, hown, hts⟩ (c_X6_leafOf l G h n T z A f hI (by omega) hd jj st (by omega) (by omega)) (cwV 3 hts gX6_readLeaf_X6_leafOf rfl rfl rfl (by decide +kernel) ⟨Nat.le_of_ble_eq_true rfl, Nat.le_of_ble_eq_true rfl⟩) (m_preV (ci := 6) hC hH F_1 rfl) rfl rfl hl.1 rfl (lv_room (Nat.le_of_ble_eq_true rfl)) dX6_readLeaf_5 ⟨Nat.le_of_ble_eq_true rfl, Nat.le_of_ble_eq_true rfl⟩) (fun r_2 rho_4 f_3 H locs hw hH => ?_)
  obtain ⟨hI, hfr1, hkp1, hr_2⟩ := hw
  have hI : IM G h n T z A f_3 := hI
  have hfr1 : frM h f f_3 := hfr1
  have hkp1 : kpM h f f_3 := hkp1
  try dsimp only at hr_2
  have hfr := hfr.trans hfr1
  have hkp := hkp.trans hkp1
  obtain ⟨he_5, fe_5, ca_5, ga_5, wh_5, tm_5, wm_5, ac_5, th_5, st_5, F_5, b1_5, b2_5, b3_5, b4_5, b5_5, b6_5, b7_5, b8_5⟩ : okM0 h n (f_3 (h 0)) := hI.1 0 (by decide)
  have kk_wm_5 : wm_5.toInt = wm_1.toInt := (congrArg Int32.toInt (show wm_5 = wm_1 from Value.int.inj (by have q := hkp1.1; rw [fldV_eq F_5, fldV_eq F_1] at q; exact q))).trans rfl
  have kk_ac_5 : ac_5.toInt = ac_1.toInt := (congrArg Int32.toInt (show ac_5 = ac_1 from Value.int.inj (by have q := hkp1.2.1; rw [fldV_eq F_5, fldV_eq F_1] at q; exact q))).trans rfl
  have kk_he_5 : he_5.toInt = he_1.toInt := (congrArg Int32.toInt (show he_5 = he_1 from Value.int.inj (by have q := hkp1.2.2; rw [fldV_eq F_5, fldV_eq F_1] at q; exact q))).trans rfl
  refine lv_istore (lv' := [(5, .int r_2), (0, .ref (h 0)), (1, .int hd), (2, .long jj), (4, .int st)]) hx hb dX6_readLeaf_8 hl (by decide) rfl (fun ls hl => ?_)
  refine lv_iload hx hb dX6_readLeaf_10 (lv_at hl 0 rfl) ?_
  refine lv_if_lt (tgt := 22) hx hb dX6_readLeaf_12 (by decide) (fun c_6 => ?_) (fun c_6 => ?_)
  · skip
    have ic_6 : (r_2.toInt : Int) < 0 := ic_lt rfl kI_0 c_6
    refine lv_iload hx hb dX6_readLeaf_22 (lv_at hl 0 rfl) ?_
    exact m_iret (v := r_2) hx hb hr hlk hC hH (fun _ => (0, 0)) ⟨hI, hfr, hkp, hr_2⟩ (Nat.le_of_ble_eq_true rfl) (Nat.le_of_ble_eq_true rfl) dX6_readLeaf_24
  · skip
    have ic_6 : (r_2.toInt : Int) ≥ 0 := ic_nlt rfl kI_0 c_6
    obtain ⟨o_, j_, a1_, a2_, a3_, a4_, a5_, a6_⟩ := hr_2.resolve_left (fun q => by omega)
    refine lv_aload_n hx hb dX6_readLeaf_15 rfl (lv_at hl 1 rfl) ?_
    refine lv_iload hx hb dX6_readLeaf_16 (lv_at hl 0 rfl) ?_
    refine lv_iconst (v := 0) hx hb dX6_readLeaf_18 (by decide) ?_
    refine m_gov hH (va_runV (As := [.int r_2, .int 0]) (rest := []) ⟨hx, hb, hml, hown, hts⟩ (c_X6_touch l G h n T z A f_3 hI r_2 0 (by have := kI_0; omega) (by have := kI_0; omega)) (cwV 2 hts gX6_readLeaf_X6_touch rfl rfl rfl (by decide +kernel) ⟨Nat.le_of_ble_eq_true rfl, Nat.le_of_ble_eq_true rfl⟩) (m_preV (ci := 6) hC hH F_5 rfl) rfl rfl hl.1 rfl (lv_room (Nat.le_of_ble_eq_true rfl)) dX6_readLeaf_19 ⟨Nat.le_of_ble_eq_true rfl, Nat.le_of_ble_eq_true rfl⟩) (fun rho_9 f_8 H locs hw hH => ?_)
    obtain ⟨hI, hfr1, hkp1⟩ := hw
    have hI : IM G h n T z A f_8 := hI
    have hfr1 : frM h f_3 f_8 := hfr1
    have hkp1 : kpM h f_3 f_8 := hkp1
    have hfr := hfr.trans hfr1
    have hkp := hkp.trans hkp1
    obtain ⟨he_10, fe_10, ca_10, ga_10, wh_10, tm_10, wm_10, ac_10, th_10, st_10, F_10, b1_10, b2_10, b3_10, b4_10, b5_10, b6_10, b7_10, b8_10⟩ : okM0 h n (f_8 (h 0)) := hI.1 0 (by decide)
    have kk_wm_10 : wm_10.toInt = wm_5.toInt := (congrArg Int32.toInt (show wm_10 = wm_5 from Value.int.inj (by have q := hkp1.1; rw [fldV_eq F_10, fldV_eq F_5] at q; exact q))).trans rfl
    have kk_ac_10 : ac_10.toInt = ac_5.toInt := (congrArg Int32.toInt (show ac_10 = ac_5 from Value.int.inj (by have q := hkp1.2.1; rw [fldV_eq F_10, fldV_eq F_5] at q; exact q))).trans rfl
    have kk_he_10 : he_10.toInt = he_5.toInt := (congrArg Int32.toInt (show he_10 = he_5 from Value.int.inj (by have q := hkp1.2.2; rw [fldV_eq F_10, fldV_eq F_5] at q; exact q))).trans rfl
    refine lv_iload hx hb dX6_readLeaf_22 (lv_at hl 0 rfl) ?_
    exact m_iret (v := r_2) hx hb hr hlk hC hH (fun _ => (0, 0)) ⟨hI, hfr, hkp, Or.inr (hr_2.resolve_left (fun q => by omega))⟩ (Nat.le_of_ble_eq_true rfl) (Nat.le_of_ble_eq_true rfl) dX6_readLeaf_24
set_option maxHeartbeats 4000000 in
set_option maxRecDepth 100000 in
theorem c_X6_itemOf (l : Launch) (G : mG) (h : Nat → Nat) (n : Nat) (T : Nat → Int32) (z : Nat → Nat) (A : Nat → tA) (f : mF) (hI : IM G h n T z A f) (lf : Int32) (v : Int64) (hl_ : lf.toInt < 192) : Met l yX6_itemOf wsX6_itemOf ({ frames := 1, cells := 0, slots := 0, locals := 25 }) (va_Pc [.ref (h 0), .int lf, .long v] (mW G f)) (va_Qi (fun (r : Int32) (u : mS) => IM G h n T z A u.2 ∧ frM h f u.2 ∧ kpM h f u.2 ∧ (r.toInt = -1 ∨ (0 ≤ lf.toInt ∧ 62976 ≤ r.toInt ∧ r.toInt < 64512))) (fun (u : mS) t => mW G u.2 t) (mA G)) 0 0 (mA G) := by
  refine mMet [.ref (h 0), .int lf, .long v] (cc := cX6_itemOf) (maxL := 4) (ret := (some .int)) (by decide) rfl (Nat.le_of_ble_eq_true rfl) ?_
  intro p e s m below meth c ls hx hb hr hml hts hown hlk hnm hC hH hl
  have hl : lv_has ls 4 [(0, .ref (h 0)), (1, .int lf), (2, .long v)] := hl
  have hj := hI.2.2.1
  have hn24 := hI.2.2.2.1
  have nIn : (nI n).toInt = (n : Int) := nI_toInt (by omega)
  have hfr : frM h f f := frM.rf
  have hkp : kpM h f f := kpM.rf
  refine lv_iload_n hx hb dX6_itemOf_0 rfl (lv_at hl 1 rfl) ?_
  refine lv_if_ge (tgt := 6) hx hb dX6_itemOf_1 (by decide) (fun c_1 => ?_) (fun c_1 => ?_)
  · skip
    have ic_1 : (0 : Int) ≤ lf.toInt := ic_le kI_0 rfl c_1
    refine lv_aload_n hx hb dX6_itemOf_6 rfl (lv_at hl 0 rfl) ?_
    obtain ⟨he_2, fe_2, ca_2, ga_2, wh_2, tm_2, wm_2, ac_2, th_2, st_2, F_2, b1_2, b2_2, b3_2, b4_2, b5_2, b6_2, b7_2, b8_2⟩ : okM0 h n (f (h 0)) := hI.1 0 (by decide)
    refine m_get (ci := 6) (v := .ref (h 4)) (C := RX6) (T := TX6) (N := 30) hx hb hC hH hts in_X6_itemOf_X6 hown F_2 rfl 4 (by decide) (hts (.fieldLink RX6 17 "LazyStateModel" "sizes" "[I") (by decide +kernel)) rfl dX6_itemOf_7 ?_
    refine lv_iload_n hx hb dX6_itemOf_10 rfl (lv_at hl 1 rfl) ?_
    refine m_goi hH (va_runS (As := [.int lf]) (rest := [.ref (h 4)]) ⟨hx, hb, hml, hown, hts⟩ (c_X6_at l G f lf (by exact ⟨by omega, by omega⟩)) (va_cwS 1 hts gX6_itemOf_X6_at rfl rfl rfl (by decide +kernel) ⟨Nat.le_of_ble_eq_true rfl, Nat.le_of_ble_eq_true rfl⟩) (m_preS hC hH) rfl rfl hl.1 rfl (lv_room (Nat.le_of_ble_eq_true rfl)) dX6_itemOf_11 ⟨Nat.le_of_ble_eq_true rfl, Nat.le_of_ble_eq_true rfl⟩) (fun r_3 rho_5 f_4 H locs hw hH => ?_)
    obtain ⟨hu, hr_3⟩ := hw
    have hu : f_4 = f := hu
    rw [hu] at hH
    obtain ⟨g_6, hg_6, hp_6⟩ : okI G 0 8064 (fun g => ∀ L, L < 8064 → (g L).toInt ≤ 8) (f (h 4)) := hI.1 4 (by decide)
    refine m_iald hx hb hC hH hg_6 (vp_in_iff.mpr ⟨by omega, by omega⟩) dX6_itemOf_14 ?_
    refine lv_topi (fun x_7 ex_7 => ?_)
    have qx_7 := hp_6 (r_3.toNatClampNeg) (ic_cl rfl (by omega) (by omega))
    rw [← ex_7] at qx_7
    refine lv_bipush (v := (-3)) hx hb dX6_itemOf_15 (by decide) ?_
    refine lv_icmp_ne (tgt := 27) hx hb dX6_itemOf_17 (by decide) (fun c_8 => ?_) (fun c_8 => ?_)
    · skip
      have ic_8 : (x_7.toInt : Int) ≠ (-3) := ic_ne rfl kI_m3 c_8
      refine lv_lload_n hx hb dX6_itemOf_27 rfl (lv_at hl 2 rfl) ?_
      refine lv_lconst (v := 0) hx hb dX6_itemOf_28 (by decide) ?_
      refine lv_aload_n hx hb dX6_itemOf_29 rfl (lv_at hl 0 rfl) ?_
      refine m_get (ci := 6) (v := .ref (h 4)) (C := RX6) (T := TX6) (N := 30) hx hb hC hH hts in_X6_itemOf_X6 hown F_2 rfl 4 (by decide) (hts (.fieldLink RX6 17 "LazyStateModel" "sizes" "[I") (by decide +kernel)) rfl dX6_itemOf_30 ?_
      refine lv_iload_n hx hb dX6_itemOf_33 rfl (lv_at hl 1 rfl) ?_
      refine m_goi hH (va_runS (As := [.int lf]) (rest := [.ref (h 4), .long 0, .long v]) ⟨hx, hb, hml, hown, hts⟩ (c_X6_at l G f lf (by exact ⟨by omega, by omega⟩)) (va_cwS 1 hts gX6_itemOf_X6_at rfl rfl rfl (by decide +kernel) ⟨Nat.le_of_ble_eq_true rfl, Nat.le_of_ble_eq_true rfl⟩) (m_preS hC hH) rfl rfl hl.1 rfl (lv_room (Nat.le_of_ble_eq_true rfl)) dX6_itemOf_34 ⟨Nat.le_of_ble_eq_true rfl, Nat.le_of_ble_eq_true rfl⟩) (fun r_9 rho_11 f_10 H locs hw hH => ?_)
      obtain ⟨hu, hr_9⟩ := hw
      have hu : f_10 = f := hu
      rw [hu] at hH
      refine m_iald hx hb hC hH hg_6 (vp_in_iff.mpr ⟨by omega, by omega⟩) dX6_itemOf_37 ?_
      refine lv_topi (fun x_12 ex_12 => ?_)
      have qx_12 := hp_6 (r_9.toNatClampNeg) (ic_cl rfl (by omega) (by omega))
      rw [← ex_12] at qx_12
      refine lv_i2l hx hb dX6_itemOf_38 rfl ?_
      refine lv_topl (fun y_13 ey_13 => ?_)
      have iy_13 : y_13.toInt = x_12.toInt := lc_i2l ey_13 rfl
      have gy_13 := ic_rng x_12
      refine lv_lconst (v := 1) hx hb dX6_itemOf_39 (by decide) ?_
      refine lv_lsub hx hb dX6_itemOf_40 ?_
      refine lv_topl (fun y_14 ey_14 => ?_)
      have iy_14 : y_14.toInt = y_13.toInt - 1 := lc_sub ey_14 rfl kJ_1 (by omega) (by omega)
      refine m_goi hH (va_runS (As := [.long v, .long 0, .long y_14]) (rest := []) ⟨hx, hb, hml, hown, hts⟩ (c_X6_in l G f v 0 y_14) (va_cwS 3 hts gX6_itemOf_X6_in rfl rfl rfl (by decide +kernel) ⟨Nat.le_of_ble_eq_true rfl, Nat.le_of_ble_eq_true rfl⟩) (m_preS hC hH) rfl rfl hl.1 rfl (lv_room (Nat.le_of_ble_eq_true rfl)) dX6_itemOf_41 ⟨Nat.le_of_ble_eq_true rfl, Nat.le_of_ble_eq_true rfl⟩) (fun r_15 rho_17 f_16 H locs hw hH => ?_)
      obtain ⟨hu, hr_15⟩ := hw
      have hu : f_16 = f := hu
      rw [hu] at hH
      have hr_15 : (r_15.toInt = 1 ∧ 0 ≤ v.toInt ∧ v.toInt ≤ y_14.toInt) ∨ (r_15.toInt = 0 ∧ (v.toInt < 0 ∨ y_14.toInt < v.toInt)) := by have q0 := (rfl : v.toInt = _); have q1 := kJ_0; have q2 := (rfl : y_14.toInt = _); omega
      refine lv_if_ne (tgt := 54) hx hb dX6_itemOf_44 (by decide) (fun c_18 => ?_) (fun c_18 => ?_)
      · skip
        have ic_18 : (r_15.toInt : Int) ≠ 0 := ic_ne rfl kI_0 c_18
        refine lv_bipush (v := 8) hx hb dX6_itemOf_54 (by decide) ?_
        refine lv_iload_n hx hb dX6_itemOf_56 rfl (lv_at hl 1 rfl) ?_
        refine m_goi hH (va_runS (As := [.int lf]) (rest := [.int 8]) ⟨hx, hb, hml, hown, hts⟩ (c_X6_at l G f lf (by exact ⟨by omega, by omega⟩)) (va_cwS 1 hts gX6_itemOf_X6_at rfl rfl rfl (by decide +kernel) ⟨Nat.le_of_ble_eq_true rfl, Nat.le_of_ble_eq_true rfl⟩) (m_preS hC hH) rfl rfl hl.1 rfl (lv_room (Nat.le_of_ble_eq_true rfl)) dX6_itemOf_57 ⟨Nat.le_of_ble_eq_true rfl, Nat.le_of_ble_eq_true rfl⟩) (fun r_19 rho_21 f_20 H locs hw hH => ?_)
        obtain ⟨hu, hr_19⟩ := hw
        have hu : f_20 = f := hu
        rw [hu] at hH
        refine lv_imul hx hb dX6_itemOf_60 ?_
        refine lv_topi (fun x_22 ex_22 => ?_)
        have ix_22 : x_22.toInt = 8 * r_19.toInt := ic_mul ex_22 kI_8 rfl (by omega) (by omega)
        refine lv_lload_n hx hb dX6_itemOf_61 rfl (lv_at hl 2 rfl) ?_
        refine lv_l2i hx hb dX6_itemOf_62 rfl ?_
        refine lv_topi (fun x_23 ex_23 => ?_)
        have ix_23 : x_23.toInt = v.toInt := ic_l2i ex_23 rfl (by omega) (by omega)
        refine lv_iadd hx hb dX6_itemOf_63 ?_
        refine lv_topi (fun x_24 ex_24 => ?_)
        have ix_24 : x_24.toInt = x_22.toInt + x_23.toInt := ic_add ex_24 rfl rfl (by omega) (by omega)
        exact m_iret (v := x_24) hx hb hr hlk hC hH (fun _ => (0, 0)) ⟨hI, hfr, hkp, Or.inr (by omega)⟩ (Nat.le_of_ble_eq_true rfl) (Nat.le_of_ble_eq_true rfl) dX6_itemOf_64
      · skip
        have ic_18 : (r_15.toInt : Int) = 0 := ic_eq rfl kI_0 c_18
        refine lv_aload_n hx hb dX6_itemOf_47 rfl (lv_at hl 0 rfl) ?_
        refine lv_iconst (v := 3) hx hb dX6_itemOf_48 (by decide) ?_
        refine m_put (ci := 6) (v := .int 3) (C := RX6) (T := TX6) (N := 30) hx hb hC hH hts in_X6_itemOf_X6 tyX6 tyX6_ok nmX6 hown F_2 rfl 28 (by decide) (hts (.fieldLink RX6 155 "LazyStateModel" "threw" "I") (by decide +kernel)) rfl rfl rfl (Nat.le_of_ble_eq_true rfl) dX6_itemOf_49 (fun H locs hH => ?_)
        have hH : mH G s (va_up f (h 0) (some (.inr (6, [.int (nI n), .ref (h 1), .int he_2, .ref (h 3), .ref (h 4), .ref (h 5), .ref (h 6), .int fe_2, .ref (h 8), .ref (h 9), .ref (h 10), .ref (h 11), .ref (h 12), .ref (h 13), .ref (h 14), .ref (h 15), .int ca_2, .long ga_2, .int wh_2, .int tm_2, .ref (h 20), .ref (h 21), .int wm_2, .ref (h 23), .ref (h 24), .int ac_2, .ref (h 26), .ref (h 27), .int 3, .int st_2])))) H locs := hH
        obtain ⟨f_25, ef_25⟩ : ∃ zz_ : mF, zz_ = va_up f (h 0) (some (.inr (6, [.int (nI n), .ref (h 1), .int he_2, .ref (h 3), .ref (h 4), .ref (h 5), .ref (h 6), .int fe_2, .ref (h 8), .ref (h 9), .ref (h 10), .ref (h 11), .ref (h 12), .ref (h 13), .ref (h 14), .ref (h 15), .int ca_2, .long ga_2, .int wh_2, .int tm_2, .ref (h 20), .ref (h 21), .int wm_2, .ref (h 23), .ref (h 24), .int ac_2, .ref (h 26), .ref (h 27), .int 3, .int st_2]))) := ⟨_, rfl⟩
        rw [← ef_25] at hH
        have F_26 : f_25 (h 0) = some (.inr (6, [.int (nI n), .ref (h 1), .int he_2, .ref (h 3), .ref (h 4), .ref (h 5), .ref (h 6), .int fe_2, .ref (h 8), .ref (h 9), .ref (h 10), .ref (h 11), .ref (h 12), .ref (h 13), .ref (h 14), .ref (h 15), .int ca_2, .long ga_2, .int wh_2, .int tm_2, .ref (h 20), .ref (h 21), .int wm_2, .ref (h 23), .ref (h 24), .int ac_2, .ref (h 26), .ref (h 27), .int 3, .int st_2])) := by rw [ef_25]; exact va_up_self _ _ _
        have hI : IM G h n T z A f_25 := hI.obj F_2 ef_25 rfl ⟨_, _, _, _, _, _, _, _, _, _, rfl, by have := True.intro; have := True.intro; have := True.intro; have := True.intro; omega, by have := True.intro; have := True.intro; have := True.intro; have := True.intro; omega, by have := True.intro; have := True.intro; have := True.intro; have := True.intro; omega, by have := True.intro; have := True.intro; have := True.intro; have := True.intro; omega, by have := True.intro; have := True.intro; have := True.intro; have := True.intro; omega, by have := True.intro; have := True.intro; have := True.intro; have := True.intro; omega, by have := True.intro; have := True.intro; have := True.intro; have := True.intro; omega, by have := True.intro; have := True.intro; have := True.intro; have := True.intro; omega⟩
        have hfr := hfr.up 0 (by decide) ef_25
        have hkp := hkp.obj F_2 F_26 rfl rfl rfl
        have hg_27 := upk hg_6 ef_25 (neM hj (by decide) (by decide) (by decide))
        refine lv_iconst (v := (-1)) hx hb dX6_itemOf_52 (by decide) ?_
        exact m_iret (v := (-1)) hx hb hr hlk hC hH (fun _ => (0, 0)) ⟨hI, hfr, hkp, Or.inl kI_m1⟩ (Nat.le_of_ble_eq_true rfl) (Nat.le_of_ble_eq_true rfl) dX6_itemOf_53
    · skip
      have ic_8 : (x_7.toInt : Int) = (-3) := ic_eq rfl kI_m3 c_8
      refine lv_aload_n hx hb dX6_itemOf_20 rfl (lv_at hl 0 rfl) ?_
      refine lv_iconst (v := 1) hx hb dX6_itemOf_21 (by decide) ?_
      refine m_put (ci := 6) (v := .int 1) (C := RX6) (T := TX6) (N := 30) hx hb hC hH hts in_X6_itemOf_X6 tyX6 tyX6_ok nmX6 hown F_2 rfl 28 (by decide) (hts (.fieldLink RX6 155 "LazyStateModel" "threw" "I") (by decide +kernel)) rfl rfl rfl (Nat.le_of_ble_eq_true rfl) dX6_itemOf_22 (fun H locs hH => ?_)
      have hH : mH G s (va_up f (h 0) (some (.inr (6, [.int (nI n), .ref (h 1), .int he_2, .ref (h 3), .ref (h 4), .ref (h 5), .ref (h 6), .int fe_2, .ref (h 8), .ref (h 9), .ref (h 10), .ref (h 11), .ref (h 12), .ref (h 13), .ref (h 14), .ref (h 15), .int ca_2, .long ga_2, .int wh_2, .int tm_2, .ref (h 20), .ref (h 21), .int wm_2, .ref (h 23), .ref (h 24), .int ac_2, .ref (h 26), .ref (h 27), .int 1, .int st_2])))) H locs := hH
      obtain ⟨f_28, ef_28⟩ : ∃ zz_ : mF, zz_ = va_up f (h 0) (some (.inr (6, [.int (nI n), .ref (h 1), .int he_2, .ref (h 3), .ref (h 4), .ref (h 5), .ref (h 6), .int fe_2, .ref (h 8), .ref (h 9), .ref (h 10), .ref (h 11), .ref (h 12), .ref (h 13), .ref (h 14), .ref (h 15), .int ca_2, .long ga_2, .int wh_2, .int tm_2, .ref (h 20), .ref (h 21), .int wm_2, .ref (h 23), .ref (h 24), .int ac_2, .ref (h 26), .ref (h 27), .int 1, .int st_2]))) := ⟨_, rfl⟩
      rw [← ef_28] at hH
      have F_29 : f_28 (h 0) = some (.inr (6, [.int (nI n), .ref (h 1), .int he_2, .ref (h 3), .ref (h 4), .ref (h 5), .ref (h 6), .int fe_2, .ref (h 8), .ref (h 9), .ref (h 10), .ref (h 11), .ref (h 12), .ref (h 13), .ref (h 14), .ref (h 15), .int ca_2, .long ga_2, .int wh_2, .int tm_2, .ref (h 20), .ref (h 21), .int wm_2, .ref (h 23), .ref (h 24), .int ac_2, .ref (h 26), .ref (h 27), .int 1, .int st_2])) := by rw [ef_28]; exact va_up_self _ _ _
      have hI : IM G h n T z A f_28 := hI.obj F_2 ef_28 rfl ⟨_, _, _, _, _, _, _, _, _, _, rfl, by have := True.intro; have := True.intro; have := True.intro; have := True.intro; omega, by have := True.intro; have := True.intro; have := True.intro; have := True.intro; omega, by have := True.intro; have := True.intro; have := True.intro; have := True.intro; omega, by have := True.intro; have := True.intro; have := True.intro; have := True.intro; omega, by have := True.intro; have := True.intro; have := True.intro; have := True.intro; omega, by have := True.intro; have := True.intro; have := True.intro; have := True.intro; omega, by have := True.intro; have := True.intro; have := True.intro; have := True.intro; omega, by have := True.intro; have := True.intro; have := True.intro; have := True.intro; omega⟩
      have hfr := hfr.up 0 (by decide) ef_28
      have hkp := hkp.obj F_2 F_29 rfl rfl rfl
      have hg_30 := upk hg_6 ef_28 (neM hj (by decide) (by decide) (by decide))
      refine lv_iconst (v := (-1)) hx hb dX6_itemOf_25 (by decide) ?_
      exact m_iret (v := (-1)) hx hb hr hlk hC hH (fun _ => (0, 0)) ⟨hI, hfr, hkp, Or.inl kI_m1⟩ (Nat.le_of_ble_eq_true rfl) (Nat.le_of_ble_eq_true rfl) dX6_itemOf_26
  · skip
    have ic_1 : (0 : Int) > lf.toInt := ic_nle kI_0 rfl c_1
    refine lv_iconst (v := (-1)) hx hb dX6_itemOf_4 (by decide) ?_
    exact m_iret (v := (-1)) hx hb hr hlk hC hH (fun _ => (0, 0)) ⟨hI, hfr, hkp, Or.inl kI_m1⟩ (Nat.le_of_ble_eq_true rfl) (Nat.le_of_ble_eq_true rfl) dX6_itemOf_5
set_option maxHeartbeats 4000000 in
set_option maxRecDepth 100000 in
theorem c_X6_shift (l : Launch) (G : mG) (h : Nat → Nat) (n : Nat) (T : Nat → Int32) (z : Nat → Nat) (A : Nat → tA) (f : mF) (hI : IM G h n T z A f) (hn0 : 0 < n) (hd : Int32) (jj : Int64) (g_ q_ : Int32) (v : Int64) (hh_ : 0 ≤ hd.toInt ∧ hd.toInt < 4) (hj0 : 0 ≤ jj.toInt ∧ jj.toInt < 8) (hg0 : 0 ≤ g_.toInt ∧ g_.toInt < 4) (hq0 : 0 ≤ q_.toInt ∧ q_.toInt < 8) : Met l yX6_shift wsX6_shift ({ frames := 3, cells := 0, slots := 0, locals := 71 }) (va_Pc [.ref (h 0), .int hd, .long jj, .int g_, .int q_, .long v] (mW G f)) (va_Qv (fun (u : mS) => IM G h n T z A u.2 ∧ frM h f u.2 ∧ kpM h f u.2) (fun (u : mS) t => mW G u.2 t) (mA G)) 0 0 (mA G) := by
  refine mMet [.ref (h 0), .int hd, .long jj, .int g_, .int q_, .long v] (cc := cX6_shift) (maxL := 13) (ret := none) (by decide) rfl (Nat.le_of_ble_eq_true rfl) ?_
  intro p e s m below meth c ls hx hb hr hml hts hown hlk hnm hC hH hl
  have hl : lv_has ls 13 [(0, .ref (h 0)), (1, .int hd), (2, .long jj), (4, .int g_), (5, .int q_), (6, .long v)] := hl
  have hj := hI.2.2.1
  have hn24 := hI.2.2.2.1
  have nIn : (nI n).toInt = (n : Int) := nI_toInt (by omega)
  have hfr : frM h f f := frM.rf
  have hkp : kpM h f f := kpM.rf
  refine lv_aload_n hx hb dX6_shift_0 rfl (lv_at hl 0 rfl) ?_
  refine lv_iload_n hx hb dX6_shift_1 rfl (lv_at hl 1 rfl) ?_
  refine lv_lload_n hx hb dX6_shift_2 rfl (lv_at hl 2 rfl) ?_
  refine lv_iconst (v := 2) hx hb dX6_shift_3 (by decide) ?_
  obtain ⟨he_1, fe_1, ca_1, ga_1, wh_1, tm_1, wm_1, ac_1, th_1, st_1, F_1, b1_1, b2_1, b3_1, b4_1, b5_1, b6_1, b7_1, b8_1⟩ : okM0 h n (f (h 0)) := hI.1 0 (by decide)
  refine m_goi hH (va_runV (As := [.int hd, .long jj, .int 2]) (rest := []) ⟨hx, hb, hml, hown, hts⟩ (c_X6_readLeaf l G h n T z A f hI (by omega) hd jj 2 (by have := kI_2; omega) (by have := kI_2; omega)) (cwV 3 hts gX6_shift_X6_readLeaf rfl rfl rfl (by decide +kernel) ⟨Nat.le_of_ble_eq_true rfl, Nat.le_of_ble_eq_true rfl⟩) (m_preV (ci := 6) hC hH F_1 rfl) rfl rfl hl.1 rfl (lv_room (Nat.le_of_ble_eq_true rfl)) dX6_shift_4 ⟨Nat.le_of_ble_eq_true rfl, Nat.le_of_ble_eq_true rfl⟩) (fun r_2 rho_4 f_3 H locs hw hH => ?_)
  obtain ⟨hI, hfr1, hkp1, hr_2⟩ := hw
  have hI : IM G h n T z A f_3 := hI
  have hfr1 : frM h f f_3 := hfr1
  have hkp1 : kpM h f f_3 := hkp1
  try dsimp only at hr_2
  have hfr := hfr.trans hfr1
  have hkp := hkp.trans hkp1
  obtain ⟨he_5, fe_5, ca_5, ga_5, wh_5, tm_5, wm_5, ac_5, th_5, st_5, F_5, b1_5, b2_5, b3_5, b4_5, b5_5, b6_5, b7_5, b8_5⟩ : okM0 h n (f_3 (h 0)) := hI.1 0 (by decide)
  have kk_wm_5 : wm_5.toInt = wm_1.toInt := (congrArg Int32.toInt (show wm_5 = wm_1 from Value.int.inj (by have q := hkp1.1; rw [fldV_eq F_5, fldV_eq F_1] at q; exact q))).trans rfl
  have kk_ac_5 : ac_5.toInt = ac_1.toInt := (congrArg Int32.toInt (show ac_5 = ac_1 from Value.int.inj (by have q := hkp1.2.1; rw [fldV_eq F_5, fldV_eq F_1] at q; exact q))).trans rfl
  have kk_he_5 : he_5.toInt = he_1.toInt := (congrArg Int32.toInt (show he_5 = he_1 from Value.int.inj (by have q := hkp1.2.2; rw [fldV_eq F_5, fldV_eq F_1] at q; exact q))).trans rfl
  refine lv_istore (lv' := [(8, .int r_2), (0, .ref (h 0)), (1, .int hd), (2, .long jj), (4, .int g_), (5, .int q_), (6, .long v)]) hx hb dX6_shift_7 hl (by decide) rfl (fun ls hl => ?_)
  refine lv_iload hx hb dX6_shift_9 (lv_at hl 0 rfl) ?_
  refine lv_if_ge (tgt := 18) hx hb dX6_shift_11 (by decide) (fun c_6 => ?_) (fun c_6 => ?_)
  · skip
    have ic_6 : (0 : Int) ≤ r_2.toInt := ic_le kI_0 rfl c_6
    obtain ⟨o1, j1, a11, a21, a31, a41, a51, a61⟩ := hr_2.resolve_left (fun q => by omega)
    refine lv_aload_n hx hb dX6_shift_18 rfl (lv_at hl 1 rfl) ?_
    refine lv_iload hx hb dX6_shift_19 (lv_at hl 4 rfl) ?_
    refine lv_iload hx hb dX6_shift_21 (lv_at hl 5 rfl) ?_
    refine lv_i2l hx hb dX6_shift_23 rfl ?_
    refine lv_topl (fun y_7 ey_7 => ?_)
    have iy_7 : y_7.toInt = q_.toInt := lc_i2l ey_7 rfl
    have gy_7 := ic_rng q_
    refine lv_iconst (v := 2) hx hb dX6_shift_24 (by decide) ?_
    refine m_goi hH (va_runV (As := [.int g_, .long y_7, .int 2]) (rest := []) ⟨hx, hb, hml, hown, hts⟩ (c_X6_readLeaf l G h n T z A f_3 hI (by omega) g_ y_7 2 (by have := kI_2; omega) (by have := kI_2; omega)) (cwV 3 hts gX6_shift_X6_readLeaf rfl rfl rfl (by decide +kernel) ⟨Nat.le_of_ble_eq_true rfl, Nat.le_of_ble_eq_true rfl⟩) (m_preV (ci := 6) hC hH F_5 rfl) rfl rfl hl.1 rfl (lv_room (Nat.le_of_ble_eq_true rfl)) dX6_shift_25 ⟨Nat.le_of_ble_eq_true rfl, Nat.le_of_ble_eq_true rfl⟩) (fun r_8 rho_10 f_9 H locs hw hH => ?_)
    obtain ⟨hI, hfr1, hkp1, hr_8⟩ := hw
    have hI : IM G h n T z A f_9 := hI
    have hfr1 : frM h f_3 f_9 := hfr1
    have hkp1 : kpM h f_3 f_9 := hkp1
    try dsimp only at hr_8
    have hfr := hfr.trans hfr1
    have hkp := hkp.trans hkp1
    obtain ⟨he_11, fe_11, ca_11, ga_11, wh_11, tm_11, wm_11, ac_11, th_11, st_11, F_11, b1_11, b2_11, b3_11, b4_11, b5_11, b6_11, b7_11, b8_11⟩ : okM0 h n (f_9 (h 0)) := hI.1 0 (by decide)
    have kk_wm_11 : wm_11.toInt = wm_5.toInt := (congrArg Int32.toInt (show wm_11 = wm_5 from Value.int.inj (by have q := hkp1.1; rw [fldV_eq F_11, fldV_eq F_5] at q; exact q))).trans rfl
    have kk_ac_11 : ac_11.toInt = ac_5.toInt := (congrArg Int32.toInt (show ac_11 = ac_5 from Value.int.inj (by have q := hkp1.2.1; rw [fldV_eq F_11, fldV_eq F_5] at q; exact q))).trans rfl
    have kk_he_11 : he_11.toInt = he_5.toInt := (congrArg Int32.toInt (show he_11 = he_5 from Value.int.inj (by have q := hkp1.2.2; rw [fldV_eq F_11, fldV_eq F_5] at q; exact q))).trans rfl
    refine lv_istore (lv' := [(9, .int r_8), (8, .int r_2), (0, .ref (h 0)), (1, .int hd), (2, .long jj), (4, .int g_), (5, .int q_), (6, .long v)]) hx hb dX6_shift_28 hl (by decide) rfl (fun ls hl => ?_)
    refine lv_iload hx hb dX6_shift_30 (lv_at hl 0 rfl) ?_
    refine lv_if_ge (tgt := 36) hx hb dX6_shift_32 (by decide) (fun c_12 => ?_) (fun c_12 => ?_)
    · skip
      have ic_12 : (0 : Int) ≤ r_8.toInt := ic_le kI_0 rfl c_12
      obtain ⟨o2, j2, a12, a22, a32, a42, a52, a62⟩ := hr_8.resolve_left (fun q => by omega)
      refine lv_aload_n hx hb dX6_shift_36 rfl (lv_at hl 2 rfl) ?_
      refine m_get (ci := 6) (v := .ref (h 4)) (C := RX6) (T := TX6) (N := 30) hx hb hC hH hts in_X6_shift_X6 hown F_11 rfl 4 (by decide) (hts (.fieldLink RX6 17 "LazyStateModel" "sizes" "[I") (by decide +kernel)) rfl dX6_shift_37 ?_
      refine lv_iload hx hb dX6_shift_40 (lv_at hl 1 rfl) ?_
      refine m_goi hH (va_runS (As := [.int r_2]) (rest := [.ref (h 4)]) ⟨hx, hb, hml, hown, hts⟩ (c_X6_at l G f_9 r_2 (by exact ⟨by omega, by omega⟩)) (va_cwS 1 hts gX6_shift_X6_at rfl rfl rfl (by decide +kernel) ⟨Nat.le_of_ble_eq_true rfl, Nat.le_of_ble_eq_true rfl⟩) (m_preS hC hH) rfl rfl hl.1 rfl (lv_room (Nat.le_of_ble_eq_true rfl)) dX6_shift_42 ⟨Nat.le_of_ble_eq_true rfl, Nat.le_of_ble_eq_true rfl⟩) (fun r_13 rho_15 f_14 H locs hw hH => ?_)
      obtain ⟨hu, hr_13⟩ := hw
      have hu : f_14 = f_9 := hu
      rw [hu] at hH
      obtain ⟨g_16, hg_16, hp_16⟩ : okI G 0 8064 (fun g => ∀ L, L < 8064 → (g L).toInt ≤ 8) (f_9 (h 4)) := hI.1 4 (by decide)
      refine m_iald hx hb hC hH hg_16 (vp_in_iff.mpr ⟨by omega, by omega⟩) dX6_shift_45 ?_
      refine lv_topi (fun x_17 ex_17 => ?_)
      have qx_17 := hp_16 (r_13.toNatClampNeg) (ic_cl rfl (by omega) (by omega))
      rw [← ex_17] at qx_17
      refine lv_istore (lv' := [(10, .int x_17), (9, .int r_8), (8, .int r_2), (0, .ref (h 0)), (1, .int hd), (2, .long jj), (4, .int g_), (5, .int q_), (6, .long v)]) hx hb dX6_shift_46 hl (by decide) rfl (fun ls hl => ?_)
      refine lv_aload_n hx hb dX6_shift_48 rfl (lv_at hl 3 rfl) ?_
      refine m_get (ci := 6) (v := .ref (h 4)) (C := RX6) (T := TX6) (N := 30) hx hb hC hH hts in_X6_shift_X6 hown F_11 rfl 4 (by decide) (hts (.fieldLink RX6 17 "LazyStateModel" "sizes" "[I") (by decide +kernel)) rfl dX6_shift_49 ?_
      refine lv_iload hx hb dX6_shift_52 (lv_at hl 1 rfl) ?_
      refine m_goi hH (va_runS (As := [.int r_8]) (rest := [.ref (h 4)]) ⟨hx, hb, hml, hown, hts⟩ (c_X6_at l G f_9 r_8 (by exact ⟨by omega, by omega⟩)) (va_cwS 1 hts gX6_shift_X6_at rfl rfl rfl (by decide +kernel) ⟨Nat.le_of_ble_eq_true rfl, Nat.le_of_ble_eq_true rfl⟩) (m_preS hC hH) rfl rfl hl.1 rfl (lv_room (Nat.le_of_ble_eq_true rfl)) dX6_shift_54 ⟨Nat.le_of_ble_eq_true rfl, Nat.le_of_ble_eq_true rfl⟩) (fun r_18 rho_20 f_19 H locs hw hH => ?_)
      obtain ⟨hu, hr_18⟩ := hw
      have hu : f_19 = f_9 := hu
      rw [hu] at hH
      refine m_iald hx hb hC hH hg_16 (vp_in_iff.mpr ⟨by omega, by omega⟩) dX6_shift_57 ?_
      refine lv_topi (fun x_21 ex_21 => ?_)
      have qx_21 := hp_16 (r_18.toNatClampNeg) (ic_cl rfl (by omega) (by omega))
      rw [← ex_21] at qx_21
      refine lv_istore (lv' := [(11, .int x_21), (10, .int x_17), (9, .int r_8), (8, .int r_2), (0, .ref (h 0)), (1, .int hd), (2, .long jj), (4, .int g_), (5, .int q_), (6, .long v)]) hx hb dX6_shift_58 hl (by decide) rfl (fun ls hl => ?_)
      refine lv_iload hx hb dX6_shift_60 (lv_at hl 1 rfl) ?_
      refine lv_bipush (v := (-3)) hx hb dX6_shift_62 (by decide) ?_
      refine lv_icmp_eq (tgt := 74) hx hb dX6_shift_64 (by decide) (fun c_22 => ?_) (fun c_22 => ?_)
      · skip
        have ic_22 : (x_17.toInt : Int) = (-3) := ic_eq rfl kI_m3 c_22
        refine lv_aload_n hx hb dX6_shift_74 rfl (lv_at hl 4 rfl) ?_
        refine lv_iconst (v := 1) hx hb dX6_shift_75 (by decide) ?_
        refine m_put (ci := 6) (v := .int 1) (C := RX6) (T := TX6) (N := 30) hx hb hC hH hts in_X6_shift_X6 tyX6 tyX6_ok nmX6 hown F_11 rfl 28 (by decide) (hts (.fieldLink RX6 155 "LazyStateModel" "threw" "I") (by decide +kernel)) rfl rfl rfl (Nat.le_of_ble_eq_true rfl) dX6_shift_76 (fun H locs hH => ?_)
        have hH : mH G s (va_up f_9 (h 0) (some (.inr (6, [.int (nI n), .ref (h 1), .int he_11, .ref (h 3), .ref (h 4), .ref (h 5), .ref (h 6), .int fe_11, .ref (h 8), .ref (h 9), .ref (h 10), .ref (h 11), .ref (h 12), .ref (h 13), .ref (h 14), .ref (h 15), .int ca_11, .long ga_11, .int wh_11, .int tm_11, .ref (h 20), .ref (h 21), .int wm_11, .ref (h 23), .ref (h 24), .int ac_11, .ref (h 26), .ref (h 27), .int 1, .int st_11])))) H locs := hH
        obtain ⟨f_23, ef_23⟩ : ∃ zz_ : mF, zz_ = va_up f_9 (h 0) (some (.inr (6, [.int (nI n), .ref (h 1), .int he_11, .ref (h 3), .ref (h 4), .ref (h 5), .ref (h 6), .int fe_11, .ref (h 8), .ref (h 9), .ref (h 10), .ref (h 11), .ref (h 12), .ref (h 13), .ref (h 14), .ref (h 15), .int ca_11, .long ga_11, .int wh_11, .int tm_11, .ref (h 20), .ref (h 21), .int wm_11, .ref (h 23), .ref (h 24), .int ac_11, .ref (h 26), .ref (h 27), .int 1, .int st_11]))) := ⟨_, rfl⟩
        rw [← ef_23] at hH
        have F_24 : f_23 (h 0) = some (.inr (6, [.int (nI n), .ref (h 1), .int he_11, .ref (h 3), .ref (h 4), .ref (h 5), .ref (h 6), .int fe_11, .ref (h 8), .ref (h 9), .ref (h 10), .ref (h 11), .ref (h 12), .ref (h 13), .ref (h 14), .ref (h 15), .int ca_11, .long ga_11, .int wh_11, .int tm_11, .ref (h 20), .ref (h 21), .int wm_11, .ref (h 23), .ref (h 24), .int ac_11, .ref (h 26), .ref (h 27), .int 1, .int st_11])) := by rw [ef_23]; exact va_up_self _ _ _
        have hI : IM G h n T z A f_23 := hI.obj F_11 ef_23 rfl ⟨_, _, _, _, _, _, _, _, _, _, rfl, by have := True.intro; have := True.intro; have := True.intro; have := True.intro; omega, by have := True.intro; have := True.intro; have := True.intro; have := True.intro; omega, by have := True.intro; have := True.intro; have := True.intro; have := True.intro; omega, by have := True.intro; have := True.intro; have := True.intro; have := True.intro; omega, by have := True.intro; have := True.intro; have := True.intro; have := True.intro; omega, by have := True.intro; have := True.intro; have := True.intro; have := True.intro; omega, by have := True.intro; have := True.intro; have := True.intro; have := True.intro; omega, by have := True.intro; have := True.intro; have := True.intro; have := True.intro; omega⟩
        have hfr := hfr.up 0 (by decide) ef_23
        have hkp := hkp.obj F_11 F_24 rfl rfl rfl
        have hg_25 := upk hg_16 ef_23 (neM hj (by decide) (by decide) (by decide))
        exact m_vret hx hb hr hlk hC hH (fun _ => (0, 0)) ⟨hI, hfr, hkp⟩ (Nat.le_of_ble_eq_true rfl) (Nat.le_of_ble_eq_true rfl) dX6_shift_79
      · skip
        have ic_22 : (x_17.toInt : Int) ≠ (-3) := ic_ne rfl kI_m3 c_22
        refine lv_iload hx hb dX6_shift_67 (lv_at hl 0 rfl) ?_
        refine lv_bipush (v := (-3)) hx hb dX6_shift_69 (by decide) ?_
        refine lv_icmp_ne (tgt := 80) hx hb dX6_shift_71 (by decide) (fun c_26 => ?_) (fun c_26 => ?_)
        · skip
          have ic_26 : (x_21.toInt : Int) ≠ (-3) := ic_ne rfl kI_m3 c_26
          refine lv_lload hx hb dX6_shift_80 (lv_at hl 9 rfl) ?_
          refine lv_lconst (v := 0) hx hb dX6_shift_82 (by decide) ?_
          refine W.lcmp hx hb dX6_shift_83 ?_
          refine lv_if_lt (tgt := 105) hx hb dX6_shift_84 (by decide) (fun c_27 => ?_) (fun c_27 => ?_)
          · skip
            have ic_27 : (v.toInt : Int) < 0 := lc_lt rfl kJ_0 ((lg_cmp_lt _ _).mp c_27)
            refine lv_aload_n hx hb dX6_shift_105 rfl (lv_at hl 4 rfl) ?_
            refine lv_iconst (v := 3) hx hb dX6_shift_106 (by decide) ?_
            refine m_put (ci := 6) (v := .int 3) (C := RX6) (T := TX6) (N := 30) hx hb hC hH hts in_X6_shift_X6 tyX6 tyX6_ok nmX6 hown F_11 rfl 28 (by decide) (hts (.fieldLink RX6 155 "LazyStateModel" "threw" "I") (by decide +kernel)) rfl rfl rfl (Nat.le_of_ble_eq_true rfl) dX6_shift_107 (fun H locs hH => ?_)
            have hH : mH G s (va_up f_9 (h 0) (some (.inr (6, [.int (nI n), .ref (h 1), .int he_11, .ref (h 3), .ref (h 4), .ref (h 5), .ref (h 6), .int fe_11, .ref (h 8), .ref (h 9), .ref (h 10), .ref (h 11), .ref (h 12), .ref (h 13), .ref (h 14), .ref (h 15), .int ca_11, .long ga_11, .int wh_11, .int tm_11, .ref (h 20), .ref (h 21), .int wm_11, .ref (h 23), .ref (h 24), .int ac_11, .ref (h 26), .ref (h 27), .int 3, .int st_11])))) H locs := hH
            obtain ⟨f_28, ef_28⟩ : ∃ zz_ : mF, zz_ = va_up f_9 (h 0) (some (.inr (6, [.int (nI n), .ref (h 1), .int he_11, .ref (h 3), .ref (h 4), .ref (h 5), .ref (h 6), .int fe_11, .ref (h 8), .ref (h 9), .ref (h 10), .ref (h 11), .ref (h 12), .ref (h 13), .ref (h 14), .ref (h 15), .int ca_11, .long ga_11, .int wh_11, .int tm_11, .ref (h 20), .ref (h 21), .int wm_11, .ref (h 23), .ref (h 24), .int ac_11, .ref (h 26), .ref (h 27), .int 3, .int st_11]))) := ⟨_, rfl⟩
            rw [← ef_28] at hH
            have F_29 : f_28 (h 0) = some (.inr (6, [.int (nI n), .ref (h 1), .int he_11, .ref (h 3), .ref (h 4), .ref (h 5), .ref (h 6), .int fe_11, .ref (h 8), .ref (h 9), .ref (h 10), .ref (h 11), .ref (h 12), .ref (h 13), .ref (h 14), .ref (h 15), .int ca_11, .long ga_11, .int wh_11, .int tm_11, .ref (h 20), .ref (h 21), .int wm_11, .ref (h 23), .ref (h 24), .int ac_11, .ref (h 26), .ref (h 27), .int 3, .int st_11])) := by rw [ef_28]; exact va_up_self _ _ _
            have hI : IM G h n T z A f_28 := hI.obj F_11 ef_28 rfl ⟨_, _, _, _, _, _, _, _, _, _, rfl, by have := True.intro; have := True.intro; have := True.intro; have := True.intro; omega, by have := True.intro; have := True.intro; have := True.intro; have := True.intro; omega, by have := True.intro; have := True.intro; have := True.intro; have := True.intro; omega, by have := True.intro; have := True.intro; have := True.intro; have := True.intro; omega, by have := True.intro; have := True.intro; have := True.intro; have := True.intro; omega, by have := True.intro; have := True.intro; have := True.intro; have := True.intro; omega, by have := True.intro; have := True.intro; have := True.intro; have := True.intro; omega, by have := True.intro; have := True.intro; have := True.intro; have := True.intro; omega⟩
            have hfr := hfr.up 0 (by decide) ef_28
            have hkp := hkp.obj F_11 F_29 rfl rfl rfl
            have hg_30 := upk hg_16 ef_28 (neM hj (by decide) (by decide) (by decide))
            exact m_vret hx hb hr hlk hC hH (fun _ => (0, 0)) ⟨hI, hfr, hkp⟩ (Nat.le_of_ble_eq_true rfl) (Nat.le_of_ble_eq_true rfl) dX6_shift_110
          · skip
            have ic_27 : (v.toInt : Int) ≥ 0 := lc_nlt rfl kJ_0 (fun q_ => c_27 ((lg_cmp_lt _ _).mpr q_))
            refine lv_lload hx hb dX6_shift_87 (lv_at hl 9 rfl) ?_
            refine lv_iload hx hb dX6_shift_89 (lv_at hl 1 rfl) ?_
            refine lv_i2l hx hb dX6_shift_91 rfl ?_
            refine lv_topl (fun y_31 ey_31 => ?_)
            have iy_31 : y_31.toInt = x_17.toInt := lc_i2l ey_31 rfl
            have gy_31 := ic_rng x_17
            refine W.lcmp hx hb dX6_shift_92 ?_
            refine lv_if_gt (tgt := 105) hx hb dX6_shift_93 (by decide) (fun c_32 => ?_) (fun c_32 => ?_)
            · skip
              have ic_32 : (y_31.toInt : Int) < v.toInt := lc_lt rfl rfl ((lg_cmp_gt _ _).mp c_32)
              refine lv_aload_n hx hb dX6_shift_105 rfl (lv_at hl 4 rfl) ?_
              refine lv_iconst (v := 3) hx hb dX6_shift_106 (by decide) ?_
              refine m_put (ci := 6) (v := .int 3) (C := RX6) (T := TX6) (N := 30) hx hb hC hH hts in_X6_shift_X6 tyX6 tyX6_ok nmX6 hown F_11 rfl 28 (by decide) (hts (.fieldLink RX6 155 "LazyStateModel" "threw" "I") (by decide +kernel)) rfl rfl rfl (Nat.le_of_ble_eq_true rfl) dX6_shift_107 (fun H locs hH => ?_)
              have hH : mH G s (va_up f_9 (h 0) (some (.inr (6, [.int (nI n), .ref (h 1), .int he_11, .ref (h 3), .ref (h 4), .ref (h 5), .ref (h 6), .int fe_11, .ref (h 8), .ref (h 9), .ref (h 10), .ref (h 11), .ref (h 12), .ref (h 13), .ref (h 14), .ref (h 15), .int ca_11, .long ga_11, .int wh_11, .int tm_11, .ref (h 20), .ref (h 21), .int wm_11, .ref (h 23), .ref (h 24), .int ac_11, .ref (h 26), .ref (h 27), .int 3, .int st_11])))) H locs := hH
              obtain ⟨f_33, ef_33⟩ : ∃ zz_ : mF, zz_ = va_up f_9 (h 0) (some (.inr (6, [.int (nI n), .ref (h 1), .int he_11, .ref (h 3), .ref (h 4), .ref (h 5), .ref (h 6), .int fe_11, .ref (h 8), .ref (h 9), .ref (h 10), .ref (h 11), .ref (h 12), .ref (h 13), .ref (h 14), .ref (h 15), .int ca_11, .long ga_11, .int wh_11, .int tm_11, .ref (h 20), .ref (h 21), .int wm_11, .ref (h 23), .ref (h 24), .int ac_11, .ref (h 26), .ref (h 27), .int 3, .int st_11]))) := ⟨_, rfl⟩
              rw [← ef_33] at hH
              have F_34 : f_33 (h 0) = some (.inr (6, [.int (nI n), .ref (h 1), .int he_11, .ref (h 3), .ref (h 4), .ref (h 5), .ref (h 6), .int fe_11, .ref (h 8), .ref (h 9), .ref (h 10), .ref (h 11), .ref (h 12), .ref (h 13), .ref (h 14), .ref (h 15), .int ca_11, .long ga_11, .int wh_11, .int tm_11, .ref (h 20), .ref (h 21), .int wm_11, .ref (h 23), .ref (h 24), .int ac_11, .ref (h 26), .ref (h 27), .int 3, .int st_11])) := by rw [ef_33]; exact va_up_self _ _ _
              have hI : IM G h n T z A f_33 := hI.obj F_11 ef_33 rfl ⟨_, _, _, _, _, _, _, _, _, _, rfl, by have := True.intro; have := True.intro; have := True.intro; have := True.intro; omega, by have := True.intro; have := True.intro; have := True.intro; have := True.intro; omega, by have := True.intro; have := True.intro; have := True.intro; have := True.intro; omega, by have := True.intro; have := True.intro; have := True.intro; have := True.intro; omega, by have := True.intro; have := True.intro; have := True.intro; have := True.intro; omega, by have := True.intro; have := True.intro; have := True.intro; have := True.intro; omega, by have := True.intro; have := True.intro; have := True.intro; have := True.intro; omega, by have := True.intro; have := True.intro; have := True.intro; have := True.intro; omega⟩
              have hfr := hfr.up 0 (by decide) ef_33
              have hkp := hkp.obj F_11 F_34 rfl rfl rfl
              have hg_35 := upk hg_16 ef_33 (neM hj (by decide) (by decide) (by decide))
              exact m_vret hx hb hr hlk hC hH (fun _ => (0, 0)) ⟨hI, hfr, hkp⟩ (Nat.le_of_ble_eq_true rfl) (Nat.le_of_ble_eq_true rfl) dX6_shift_110
            · skip
              have ic_32 : (y_31.toInt : Int) ≥ v.toInt := lc_nlt rfl rfl (fun q_ => c_32 ((lg_cmp_gt _ _).mpr q_))
              refine lv_lload hx hb dX6_shift_96 (lv_at hl 9 rfl) ?_
              refine lv_iload hx hb dX6_shift_98 (lv_at hl 0 rfl) ?_
              refine lv_i2l hx hb dX6_shift_100 rfl ?_
              refine lv_topl (fun y_36 ey_36 => ?_)
              have iy_36 : y_36.toInt = x_21.toInt := lc_i2l ey_36 rfl
              have gy_36 := ic_rng x_21
              refine W.lcmp hx hb dX6_shift_101 ?_
              refine lv_if_le (tgt := 111) hx hb dX6_shift_102 (by decide) (fun c_37 => ?_) (fun c_37 => ?_)
              · skip
                have ic_37 : (v.toInt : Int) ≤ y_36.toInt := lc_le rfl rfl ((lg_cmp_le _ _).mp c_37)
                refine lv_iconst (v := 0) hx hb dX6_shift_111 (by decide) ?_
                refine lv_istore (lv' := [(12, .int 0), (11, .int x_21), (10, .int x_17), (9, .int r_8), (8, .int r_2), (0, .ref (h 0)), (1, .int hd), (2, .long jj), (4, .int g_), (5, .int q_), (6, .long v)]) hx hb dX6_shift_112 hl (by decide) rfl (fun ls hl => ?_)
                have loop_114 : ∀ (fuel_ : Nat) (k12 : Int32) (fL : mF) (h0_ : 0 ≤ k12.toInt) (h1_ : k12.toInt ≤ 8) (hI : IM G h n T z A fL) (hfr : frM h f fL) (hkp : kpM h f fL) (_ : ((8 : Int) - k12.toInt).toNat < fuel_) (H : Heap) (locs : List Loc) (ls : Array Slot) (_ : mH G s fL H locs) (_ : lv_has ls 13 [(0, .ref (h 0)), (1, .int hd), (2, .long jj), (4, .int g_), (5, .int q_), (6, .long v), (8, .int r_2), (9, .int r_8), (10, .int x_17), (11, .int x_21), (12, .int k12)]), W p l e ({ frames := 3, cells := 0, slots := 0, locals := 71 } : Room) s m ([.ref (h 0), .int hd, .long jj, .int g_, .int q_, .long v] : List Value).toArray below meth c H locs (0 + 0 + 0 + 0 + 0) (0 + 0 + 0 + 0 + 0) (MQ below (va_Qv (fun (u : mS) => IM G h n T z A u.2 ∧ frM h f u.2 ∧ kpM h f u.2) (fun (u : mS) t => mW G u.2 t) (mA G)) ([.ref (h 0), .int hd, .long jj, .int g_, .int q_, .long v] : List Value).toArray s 0 0 (mA G)) (F0 m 114 ls []) := by
                  intro N_114
                  induction N_114 with
                  | zero => intro k12 fL h0_ h1_ hI hfr hkp hN; omega
                  | succ N_114 ih_114 =>
                    intro k12 fL h0_ h1_ hI hfr hkp hN_114 H locs ls hH hl
                    refine lv_iload hx hb dX6_shift_114 (lv_at hl 10 rfl) ?_
                    refine lv_i2l hx hb dX6_shift_116 rfl ?_
                    refine lv_topl (fun y_38 ey_38 => ?_)
                    have iy_38 : y_38.toInt = k12.toInt := lc_i2l ey_38 rfl
                    have gy_38 := ic_rng k12
                    refine lv_lload hx hb dX6_shift_117 (lv_at hl 5 rfl) ?_
                    refine W.lcmp hx hb dX6_shift_119 ?_
                    refine lv_if_ge (tgt := 161) hx hb dX6_shift_120 (by decide) (fun c_39 => ?_) (fun c_39 => ?_)
                    · skip
                      have ic_39 : (v.toInt : Int) ≤ y_38.toInt := lc_le rfl rfl ((lg_cmp_ge _ _).mp c_39)
                      refine lv_aload_n hx hb dX6_shift_161 rfl (lv_at hl 0 rfl) ?_
                      refine lv_iload hx hb dX6_shift_162 (lv_at hl 7 rfl) ?_
                      refine lv_iconst (v := 1) hx hb dX6_shift_164 (by decide) ?_
                      obtain ⟨he_40, fe_40, ca_40, ga_40, wh_40, tm_40, wm_40, ac_40, th_40, st_40, F_40, b1_40, b2_40, b3_40, b4_40, b5_40, b6_40, b7_40, b8_40⟩ : okM0 h n (fL (h 0)) := hI.1 0 (by decide)
                      refine m_gov hH (va_runV (As := [.int r_8, .int 1]) (rest := []) ⟨hx, hb, hml, hown, hts⟩ (c_X6_touch l G h n T z A fL hI r_8 1 (by have := kI_1; omega) (by have := kI_1; omega)) (cwV 2 hts gX6_shift_X6_touch rfl rfl rfl (by decide +kernel) ⟨Nat.le_of_ble_eq_true rfl, Nat.le_of_ble_eq_true rfl⟩) (m_preV (ci := 6) hC hH F_40 rfl) rfl rfl hl.1 rfl (lv_room (Nat.le_of_ble_eq_true rfl)) dX6_shift_165 ⟨Nat.le_of_ble_eq_true rfl, Nat.le_of_ble_eq_true rfl⟩) (fun rho_43 f_42 H locs hw hH => ?_)
                      obtain ⟨hI, hfr1, hkp1⟩ := hw
                      have hI : IM G h n T z A f_42 := hI
                      have hfr1 : frM h fL f_42 := hfr1
                      have hkp1 : kpM h fL f_42 := hkp1
                      have hfr := hfr.trans hfr1
                      have hkp := hkp.trans hkp1
                      obtain ⟨he_44, fe_44, ca_44, ga_44, wh_44, tm_44, wm_44, ac_44, th_44, st_44, F_44, b1_44, b2_44, b3_44, b4_44, b5_44, b6_44, b7_44, b8_44⟩ : okM0 h n (f_42 (h 0)) := hI.1 0 (by decide)
                      have kk_wm_44 : wm_44.toInt = wm_40.toInt := (congrArg Int32.toInt (show wm_44 = wm_40 from Value.int.inj (by have q := hkp1.1; rw [fldV_eq F_44, fldV_eq F_40] at q; exact q))).trans rfl
                      have kk_ac_44 : ac_44.toInt = ac_40.toInt := (congrArg Int32.toInt (show ac_44 = ac_40 from Value.int.inj (by have q := hkp1.2.1; rw [fldV_eq F_44, fldV_eq F_40] at q; exact q))).trans rfl
                      have kk_he_44 : he_44.toInt = he_40.toInt := (congrArg Int32.toInt (show he_44 = he_40 from Value.int.inj (by have q := hkp1.2.2; rw [fldV_eq F_44, fldV_eq F_40] at q; exact q))).trans rfl
                      exact m_vret hx hb hr hlk hC hH (fun _ => (0, 0)) ⟨hI, hfr, hkp⟩ (Nat.le_of_ble_eq_true rfl) (Nat.le_of_ble_eq_true rfl) dX6_shift_168
                    · skip
                      have ic_39 : (v.toInt : Int) > y_38.toInt := lc_nle rfl rfl (fun q_ => c_39 ((lg_cmp_ge _ _).mpr q_))
                      refine lv_aload_n hx hb dX6_shift_123 rfl (lv_at hl 0 rfl) ?_
                      obtain ⟨he_45, fe_45, ca_45, ga_45, wh_45, tm_45, wm_45, ac_45, th_45, st_45, F_45, b1_45, b2_45, b3_45, b4_45, b5_45, b6_45, b7_45, b8_45⟩ : okM0 h n (fL (h 0)) := hI.1 0 (by decide)
                      refine m_get (ci := 6) (v := .ref (h 5)) (C := RX6) (T := TX6) (N := 30) hx hb hC hH hts in_X6_shift_X6 hown F_45 rfl 5 (by decide) (hts (.fieldLink RX6 21 "LazyStateModel" "items" "[I") (by decide +kernel)) rfl dX6_shift_124 ?_
                      refine lv_bipush (v := 8) hx hb dX6_shift_127 (by decide) ?_
                      refine lv_iload hx hb dX6_shift_129 (lv_at hl 7 rfl) ?_
                      refine m_goi hH (va_runS (As := [.int r_8]) (rest := [.int 8, .ref (h 5)]) ⟨hx, hb, hml, hown, hts⟩ (c_X6_at l G fL r_8 (by exact ⟨by omega, by omega⟩)) (va_cwS 1 hts gX6_shift_X6_at rfl rfl rfl (by decide +kernel) ⟨Nat.le_of_ble_eq_true rfl, Nat.le_of_ble_eq_true rfl⟩) (m_preS hC hH) rfl rfl hl.1 rfl (lv_room (Nat.le_of_ble_eq_true rfl)) dX6_shift_131 ⟨Nat.le_of_ble_eq_true rfl, Nat.le_of_ble_eq_true rfl⟩) (fun r_46 rho_48 f_47 H locs hw hH => ?_)
                      obtain ⟨hu, hr_46⟩ := hw
                      have hu : f_47 = fL := hu
                      rw [hu] at hH
                      refine lv_imul hx hb dX6_shift_134 ?_
                      refine lv_topi (fun x_49 ex_49 => ?_)
                      have ix_49 : x_49.toInt = 8 * r_46.toInt := ic_mul ex_49 kI_8 rfl (by omega) (by omega)
                      refine lv_iload hx hb dX6_shift_135 (lv_at hl 10 rfl) ?_
                      refine lv_iadd hx hb dX6_shift_137 ?_
                      refine lv_topi (fun x_50 ex_50 => ?_)
                      have ix_50 : x_50.toInt = x_49.toInt + k12.toInt := ic_add ex_50 rfl rfl (by omega) (by omega)
                      refine lv_aload_n hx hb dX6_shift_138 rfl (lv_at hl 0 rfl) ?_
                      refine m_get (ci := 6) (v := .ref (h 5)) (C := RX6) (T := TX6) (N := 30) hx hb hC hH hts in_X6_shift_X6 hown F_45 rfl 5 (by decide) (hts (.fieldLink RX6 21 "LazyStateModel" "items" "[I") (by decide +kernel)) rfl dX6_shift_139 ?_
                      refine lv_bipush (v := 8) hx hb dX6_shift_142 (by decide) ?_
                      refine lv_iload hx hb dX6_shift_144 (lv_at hl 6 rfl) ?_
                      refine m_goi hH (va_runS (As := [.int r_2]) (rest := [.int 8, .ref (h 5), .int x_50, .ref (h 5)]) ⟨hx, hb, hml, hown, hts⟩ (c_X6_at l G fL r_2 (by exact ⟨by omega, by omega⟩)) (va_cwS 1 hts gX6_shift_X6_at rfl rfl rfl (by decide +kernel) ⟨Nat.le_of_ble_eq_true rfl, Nat.le_of_ble_eq_true rfl⟩) (m_preS hC hH) rfl rfl hl.1 rfl (lv_room (Nat.le_of_ble_eq_true rfl)) dX6_shift_146 ⟨Nat.le_of_ble_eq_true rfl, Nat.le_of_ble_eq_true rfl⟩) (fun r_51 rho_53 f_52 H locs hw hH => ?_)
                      obtain ⟨hu, hr_51⟩ := hw
                      have hu : f_52 = fL := hu
                      rw [hu] at hH
                      refine lv_imul hx hb dX6_shift_149 ?_
                      refine lv_topi (fun x_54 ex_54 => ?_)
                      have ix_54 : x_54.toInt = 8 * r_51.toInt := ic_mul ex_54 kI_8 rfl (by omega) (by omega)
                      refine lv_iload hx hb dX6_shift_150 (lv_at hl 10 rfl) ?_
                      refine lv_iadd hx hb dX6_shift_152 ?_
                      refine lv_topi (fun x_55 ex_55 => ?_)
                      have ix_55 : x_55.toInt = x_54.toInt + k12.toInt := ic_add ex_55 rfl rfl (by omega) (by omega)
                      obtain ⟨g_56, hg_56, hp_56⟩ : okI G 0 64512 (fun _ => True) (fL (h 5)) := hI.1 5 (by decide)
                      refine m_iald hx hb hC hH hg_56 (vp_in_iff.mpr ⟨by omega, by omega⟩) dX6_shift_153 ?_
                      refine lv_topi (fun x_57 ex_57 => ?_)
                      refine m_iast hx hb hC hH hg_56 (vp_in_iff.mpr ⟨by omega, by omega⟩) dX6_shift_154 (fun H locs hH => ?_)
                      obtain ⟨f_58, ef_58⟩ : ∃ zz_ : mF, zz_ = va_up fL (h 5) (some (.inl (gk G 0, 64512, .inl (upd g_56 x_50.toNatClampNeg x_57)))) := ⟨_, rfl⟩
                      rw [← ef_58] at hH
                      have F_59 := upk F_45 ef_58 (neM hj (by decide) (by decide) (by decide))
                      have hI : IM G h n T z A f_58 := hI.arr 5 (by decide) (by decide) (by decide) (by decide) (show okI G 0 64512 (fun _ => True) _ from ⟨_, rfl, trivial⟩) ef_58
                      have hfr := hfr.up 5 (by decide) ef_58
                      have hkp := hkp.up 5 hj (by decide) (by decide) ef_58
                      obtain ⟨x_60, ex_60⟩ : ∃ y : Int32, y = k12 + 1 := ⟨_, rfl⟩
                      have ix_60 : x_60.toInt = k12.toInt + 1 := ic_add ex_60 rfl kI_1 (by omega) (by omega)
                      refine lv_iinc (v := x_60) (lv' := [(12, .int x_60), (0, .ref (h 0)), (1, .int hd), (2, .long jj), (4, .int g_), (5, .int q_), (6, .long v), (8, .int r_2), (9, .int r_8), (10, .int x_17), (11, .int x_21)]) hx hb dX6_shift_155 hl (k := 10) rfl (by rw [ex_60]; rfl) (by decide) rfl (fun ls hl => ?_)
                      refine lv_goto (tgt := 114) hx hb dX6_shift_158 (by decide) ?_
                      exact ih_114 x_60 f_58 (by omega) (by omega) hI hfr hkp (by omega) _ _ _ hH (lv_sub hl [1, 2, 3, 4, 5, 6, 7, 8, 9, 10, 0] rfl)
                exact loop_114 (((8 : Int) - 0).toNat + 1) 0 f_9 (by have := kI_0; omega) (by have := kI_0; omega) hI hfr hkp (by have := kI_0; omega) _ _ _ hH (lv_sub hl [5, 6, 7, 8, 9, 10, 4, 3, 2, 1, 0] rfl)
              · skip
                have ic_37 : (v.toInt : Int) > y_36.toInt := lc_nle rfl rfl (fun q_ => c_37 ((lg_cmp_le _ _).mpr q_))
                refine lv_aload_n hx hb dX6_shift_105 rfl (lv_at hl 4 rfl) ?_
                refine lv_iconst (v := 3) hx hb dX6_shift_106 (by decide) ?_
                refine m_put (ci := 6) (v := .int 3) (C := RX6) (T := TX6) (N := 30) hx hb hC hH hts in_X6_shift_X6 tyX6 tyX6_ok nmX6 hown F_11 rfl 28 (by decide) (hts (.fieldLink RX6 155 "LazyStateModel" "threw" "I") (by decide +kernel)) rfl rfl rfl (Nat.le_of_ble_eq_true rfl) dX6_shift_107 (fun H locs hH => ?_)
                have hH : mH G s (va_up f_9 (h 0) (some (.inr (6, [.int (nI n), .ref (h 1), .int he_11, .ref (h 3), .ref (h 4), .ref (h 5), .ref (h 6), .int fe_11, .ref (h 8), .ref (h 9), .ref (h 10), .ref (h 11), .ref (h 12), .ref (h 13), .ref (h 14), .ref (h 15), .int ca_11, .long ga_11, .int wh_11, .int tm_11, .ref (h 20), .ref (h 21), .int wm_11, .ref (h 23), .ref (h 24), .int ac_11, .ref (h 26), .ref (h 27), .int 3, .int st_11])))) H locs := hH
                obtain ⟨f_61, ef_61⟩ : ∃ zz_ : mF, zz_ = va_up f_9 (h 0) (some (.inr (6, [.int (nI n), .ref (h 1), .int he_11, .ref (h 3), .ref (h 4), .ref (h 5), .ref (h 6), .int fe_11, .ref (h 8), .ref (h 9), .ref (h 10), .ref (h 11), .ref (h 12), .ref (h 13), .ref (h 14), .ref (h 15), .int ca_11, .long ga_11, .int wh_11, .int tm_11, .ref (h 20), .ref (h 21), .int wm_11, .ref (h 23), .ref (h 24), .int ac_11, .ref (h 26), .ref (h 27), .int 3, .int st_11]))) := ⟨_, rfl⟩
                rw [← ef_61] at hH
                have F_62 : f_61 (h 0) = some (.inr (6, [.int (nI n), .ref (h 1), .int he_11, .ref (h 3), .ref (h 4), .ref (h 5), .ref (h 6), .int fe_11, .ref (h 8), .ref (h 9), .ref (h 10), .ref (h 11), .ref (h 12), .ref (h 13), .ref (h 14), .ref (h 15), .int ca_11, .long ga_11, .int wh_11, .int tm_11, .ref (h 20), .ref (h 21), .int wm_11, .ref (h 23), .ref (h 24), .int ac_11, .ref (h 26), .ref (h 27), .int 3, .int st_11])) := by rw [ef_61]; exact va_up_self _ _ _
                have hI : IM G h n T z A f_61 := hI.obj F_11 ef_61 rfl ⟨_, _, _, _, _, _, _, _, _, _, rfl, by have := True.intro; have := True.intro; have := True.intro; have := True.intro; omega, by have := True.intro; have := True.intro; have := True.intro; have := True.intro; omega, by have := True.intro; have := True.intro; have := True.intro; have := True.intro; omega, by have := True.intro; have := True.intro; have := True.intro; have := True.intro; omega, by have := True.intro; have := True.intro; have := True.intro; have := True.intro; omega, by have := True.intro; have := True.intro; have := True.intro; have := True.intro; omega, by have := True.intro; have := True.intro; have := True.intro; have := True.intro; omega, by have := True.intro; have := True.intro; have := True.intro; have := True.intro; omega⟩
                have hfr := hfr.up 0 (by decide) ef_61
                have hkp := hkp.obj F_11 F_62 rfl rfl rfl
                have hg_63 := upk hg_16 ef_61 (neM hj (by decide) (by decide) (by decide))
                exact m_vret hx hb hr hlk hC hH (fun _ => (0, 0)) ⟨hI, hfr, hkp⟩ (Nat.le_of_ble_eq_true rfl) (Nat.le_of_ble_eq_true rfl) dX6_shift_110
        · skip
          have ic_26 : (x_21.toInt : Int) = (-3) := ic_eq rfl kI_m3 c_26
          refine lv_aload_n hx hb dX6_shift_74 rfl (lv_at hl 4 rfl) ?_
          refine lv_iconst (v := 1) hx hb dX6_shift_75 (by decide) ?_
          refine m_put (ci := 6) (v := .int 1) (C := RX6) (T := TX6) (N := 30) hx hb hC hH hts in_X6_shift_X6 tyX6 tyX6_ok nmX6 hown F_11 rfl 28 (by decide) (hts (.fieldLink RX6 155 "LazyStateModel" "threw" "I") (by decide +kernel)) rfl rfl rfl (Nat.le_of_ble_eq_true rfl) dX6_shift_76 (fun H locs hH => ?_)
          have hH : mH G s (va_up f_9 (h 0) (some (.inr (6, [.int (nI n), .ref (h 1), .int he_11, .ref (h 3), .ref (h 4), .ref (h 5), .ref (h 6), .int fe_11, .ref (h 8), .ref (h 9), .ref (h 10), .ref (h 11), .ref (h 12), .ref (h 13), .ref (h 14), .ref (h 15), .int ca_11, .long ga_11, .int wh_11, .int tm_11, .ref (h 20), .ref (h 21), .int wm_11, .ref (h 23), .ref (h 24), .int ac_11, .ref (h 26), .ref (h 27), .int 1, .int st_11])))) H locs := hH
          obtain ⟨f_64, ef_64⟩ : ∃ zz_ : mF, zz_ = va_up f_9 (h 0) (some (.inr (6, [.int (nI n), .ref (h 1), .int he_11, .ref (h 3), .ref (h 4), .ref (h 5), .ref (h 6), .int fe_11, .ref (h 8), .ref (h 9), .ref (h 10), .ref (h 11), .ref (h 12), .ref (h 13), .ref (h 14), .ref (h 15), .int ca_11, .long ga_11, .int wh_11, .int tm_11, .ref (h 20), .ref (h 21), .int wm_11, .ref (h 23), .ref (h 24), .int ac_11, .ref (h 26), .ref (h 27), .int 1, .int st_11]))) := ⟨_, rfl⟩
          rw [← ef_64] at hH
          have F_65 : f_64 (h 0) = some (.inr (6, [.int (nI n), .ref (h 1), .int he_11, .ref (h 3), .ref (h 4), .ref (h 5), .ref (h 6), .int fe_11, .ref (h 8), .ref (h 9), .ref (h 10), .ref (h 11), .ref (h 12), .ref (h 13), .ref (h 14), .ref (h 15), .int ca_11, .long ga_11, .int wh_11, .int tm_11, .ref (h 20), .ref (h 21), .int wm_11, .ref (h 23), .ref (h 24), .int ac_11, .ref (h 26), .ref (h 27), .int 1, .int st_11])) := by rw [ef_64]; exact va_up_self _ _ _
          have hI : IM G h n T z A f_64 := hI.obj F_11 ef_64 rfl ⟨_, _, _, _, _, _, _, _, _, _, rfl, by have := True.intro; have := True.intro; have := True.intro; have := True.intro; omega, by have := True.intro; have := True.intro; have := True.intro; have := True.intro; omega, by have := True.intro; have := True.intro; have := True.intro; have := True.intro; omega, by have := True.intro; have := True.intro; have := True.intro; have := True.intro; omega, by have := True.intro; have := True.intro; have := True.intro; have := True.intro; omega, by have := True.intro; have := True.intro; have := True.intro; have := True.intro; omega, by have := True.intro; have := True.intro; have := True.intro; have := True.intro; omega, by have := True.intro; have := True.intro; have := True.intro; have := True.intro; omega⟩
          have hfr := hfr.up 0 (by decide) ef_64
          have hkp := hkp.obj F_11 F_65 rfl rfl rfl
          have hg_66 := upk hg_16 ef_64 (neM hj (by decide) (by decide) (by decide))
          exact m_vret hx hb hr hlk hC hH (fun _ => (0, 0)) ⟨hI, hfr, hkp⟩ (Nat.le_of_ble_eq_true rfl) (Nat.le_of_ble_eq_true rfl) dX6_shift_79
    · skip
      have ic_12 : (0 : Int) > r_8.toInt := ic_nle kI_0 rfl c_12
      exact m_vret hx hb hr hlk hC hH (fun _ => (0, 0)) ⟨hI, hfr, hkp⟩ (Nat.le_of_ble_eq_true rfl) (Nat.le_of_ble_eq_true rfl) dX6_shift_35
  · skip
    have ic_6 : (0 : Int) > r_2.toInt := ic_nle kI_0 rfl c_6
    refine lv_iconst (v := (-1)) hx hb dX6_shift_14 (by decide) ?_
    refine lv_goto (tgt := 28) hx hb dX6_shift_15 (by decide) ?_
    refine lv_istore (lv' := [(9, .int (-1)), (8, .int r_2), (0, .ref (h 0)), (1, .int hd), (2, .long jj), (4, .int g_), (5, .int q_), (6, .long v)]) hx hb dX6_shift_28 hl (by decide) rfl (fun ls hl => ?_)
    refine lv_iload hx hb dX6_shift_30 (lv_at hl 0 rfl) ?_
    refine lv_if_ge (tgt := 36) hx hb dX6_shift_32 (by decide) (fun c_67 => ?_) (fun c_67 => ?_)
    · skip
      have ic_67 : (0 : Int) ≤ (-1) := ic_le kI_0 kI_m1 c_67
      omega
    · skip
      have ic_67 : (0 : Int) > (-1) := ic_nle kI_0 kI_m1 c_67
      exact m_vret hx hb hr hlk hC hH (fun _ => (0, 0)) ⟨hI, hfr, hkp⟩ (Nat.le_of_ble_eq_true rfl) (Nat.le_of_ble_eq_true rfl) dX6_shift_35
set_option maxHeartbeats 4000000 in
set_option maxRecDepth 100000 in
theorem c_X6_like (l : Launch) (G : mG) (h : Nat → Nat) (n : Nat) (T : Nat → Int32) (z : Nat → Nat) (A : Nat → tA) (f : mF) (hI : IM G h n T z A f) (p_ q_ : Int32) (hp0 : -3 ≤ p_.toInt ∧ p_.toInt < n) (hq0 : -3 ≤ q_.toInt ∧ q_.toInt < n) : Met l yX6_like wsX6_like ({ frames := 1, cells := 0, slots := 0, locals := 24 }) (va_Pc [.ref (h 0), .int p_, .int q_] (mW G f)) (va_Qi (fun (r : Int32) (u : mS) => IM G h n T z A u.2 ∧ frM h f u.2 ∧ kpM h f u.2 ∧ (r.toInt = 0 ∨ r.toInt = 1)) (fun (u : mS) t => mW G u.2 t) (mA G)) 0 0 (mA G) := by
  refine mMet [.ref (h 0), .int p_, .int q_] (cc := cX6_like) (maxL := 5) (ret := (some .boolean)) (by decide) rfl (Nat.le_of_ble_eq_true rfl) ?_
  intro p e s m below meth c ls hx hb hr hml hts hown hlk hnm hC hH hl
  have hl : lv_has ls 5 [(0, .ref (h 0)), (1, .int p_), (2, .int q_)] := hl
  have hj := hI.2.2.1
  have hn24 := hI.2.2.2.1
  have nIn : (nI n).toInt = (n : Int) := nI_toInt (by omega)
  have hfr : frM h f f := frM.rf
  have hkp : kpM h f f := kpM.rf
  refine lv_iload_n hx hb dX6_like_0 rfl (lv_at hl 1 rfl) ?_
  refine lv_iload_n hx hb dX6_like_1 rfl (lv_at hl 2 rfl) ?_
  refine lv_icmp_ne (tgt := 7) hx hb dX6_like_2 (by decide) (fun c_1 => ?_) (fun c_1 => ?_)
  · skip
    have ic_1 : (p_.toInt : Int) ≠ q_.toInt := ic_ne rfl rfl c_1
    refine lv_iload_n hx hb dX6_like_7 rfl (lv_at hl 1 rfl) ?_
    refine lv_if_lt (tgt := 30) hx hb dX6_like_8 (by decide) (fun c_2 => ?_) (fun c_2 => ?_)
    · skip
      have ic_2 : (p_.toInt : Int) < 0 := ic_lt rfl kI_0 c_2
      refine lv_iconst (v := 0) hx hb dX6_like_30 (by decide) ?_
      exact m_zret (v := 0) hx hb hr (by rfl) hlk hC hH (fun _ => (0, 0)) ⟨hI, hfr, hkp, by have := kI_0; omega⟩ (Nat.le_of_ble_eq_true rfl) (Nat.le_of_ble_eq_true rfl) dX6_like_31
    · skip
      have ic_2 : (p_.toInt : Int) ≥ 0 := ic_nlt rfl kI_0 c_2
      refine lv_iload_n hx hb dX6_like_11 rfl (lv_at hl 2 rfl) ?_
      refine lv_if_lt (tgt := 30) hx hb dX6_like_12 (by decide) (fun c_3 => ?_) (fun c_3 => ?_)
      · skip
        have ic_3 : (q_.toInt : Int) < 0 := ic_lt rfl kI_0 c_3
        refine lv_iconst (v := 0) hx hb dX6_like_30 (by decide) ?_
        exact m_zret (v := 0) hx hb hr (by rfl) hlk hC hH (fun _ => (0, 0)) ⟨hI, hfr, hkp, by have := kI_0; omega⟩ (Nat.le_of_ble_eq_true rfl) (Nat.le_of_ble_eq_true rfl) dX6_like_31
      · skip
        have ic_3 : (q_.toInt : Int) ≥ 0 := ic_nlt rfl kI_0 c_3
        refine lv_aload_n hx hb dX6_like_15 rfl (lv_at hl 0 rfl) ?_
        obtain ⟨he_4, fe_4, ca_4, ga_4, wh_4, tm_4, wm_4, ac_4, th_4, st_4, F_4, b1_4, b2_4, b3_4, b4_4, b5_4, b6_4, b7_4, b8_4⟩ : okM0 h n (f (h 0)) := hI.1 0 (by decide)
        refine m_get (ci := 6) (v := .ref (h 1)) (C := RX6) (T := TX6) (N := 30) hx hb hC hH hts in_X6_like_X6 hown F_4 rfl 1 (by decide) (hts (.fieldLink RX6 7 "LazyStateModel" "types" "[I") (by decide +kernel)) rfl dX6_like_16 ?_
        refine lv_iload_n hx hb dX6_like_19 rfl (lv_at hl 1 rfl) ?_
        obtain ⟨g_5, hg_5, hp_5⟩ : okI G 0 24 (fun g => ∀ o, o < n → g o = T o) (f (h 1)) := hI.1 1 (by decide)
        refine m_iald hx hb hC hH hg_5 (vp_in_iff.mpr ⟨by omega, by omega⟩) dX6_like_20 ?_
        refine lv_topi (fun x_6 ex_6 => ?_)
        refine lv_aload_n hx hb dX6_like_21 rfl (lv_at hl 0 rfl) ?_
        refine m_get (ci := 6) (v := .ref (h 1)) (C := RX6) (T := TX6) (N := 30) hx hb hC hH hts in_X6_like_X6 hown F_4 rfl 1 (by decide) (hts (.fieldLink RX6 7 "LazyStateModel" "types" "[I") (by decide +kernel)) rfl dX6_like_22 ?_
        refine lv_iload_n hx hb dX6_like_25 rfl (lv_at hl 2 rfl) ?_
        refine m_iald hx hb hC hH hg_5 (vp_in_iff.mpr ⟨by omega, by omega⟩) dX6_like_26 ?_
        refine lv_topi (fun x_7 ex_7 => ?_)
        refine lv_icmp_eq (tgt := 32) hx hb dX6_like_27 (by decide) (fun c_8 => ?_) (fun c_8 => ?_)
        · skip
          have ic_8 : (x_6.toInt : Int) = x_7.toInt := ic_eq rfl rfl c_8
          refine lv_aload_n hx hb dX6_like_32 rfl (lv_at hl 0 rfl) ?_
          refine lv_iload_n hx hb dX6_like_33 rfl (lv_at hl 1 rfl) ?_
          refine m_gov hH (va_runV (As := [.int p_]) (rest := []) ⟨hx, hb, hml, hown, hts⟩ (c_X6_load l G h n T z A f hI p_ (by omega)) (cwV 1 hts gX6_like_X6_load rfl rfl rfl (by decide +kernel) ⟨Nat.le_of_ble_eq_true rfl, Nat.le_of_ble_eq_true rfl⟩) (m_preV (ci := 6) hC hH F_4 rfl) rfl rfl hl.1 rfl (lv_room (Nat.le_of_ble_eq_true rfl)) dX6_like_34 ⟨Nat.le_of_ble_eq_true rfl, Nat.le_of_ble_eq_true rfl⟩) (fun rho_11 f_10 H locs hw hH => ?_)
          obtain ⟨hI, hfr1, hkp1⟩ := hw
          have hI : IM G h n T z A f_10 := hI
          have hfr1 : frM h f f_10 := hfr1
          have hkp1 : kpM h f f_10 := hkp1
          have hfr := hfr.trans hfr1
          have hkp := hkp.trans hkp1
          obtain ⟨he_12, fe_12, ca_12, ga_12, wh_12, tm_12, wm_12, ac_12, th_12, st_12, F_12, b1_12, b2_12, b3_12, b4_12, b5_12, b6_12, b7_12, b8_12⟩ : okM0 h n (f_10 (h 0)) := hI.1 0 (by decide)
          have kk_wm_12 : wm_12.toInt = wm_4.toInt := (congrArg Int32.toInt (show wm_12 = wm_4 from Value.int.inj (by have q := hkp1.1; rw [fldV_eq F_12, fldV_eq F_4] at q; exact q))).trans rfl
          have kk_ac_12 : ac_12.toInt = ac_4.toInt := (congrArg Int32.toInt (show ac_12 = ac_4 from Value.int.inj (by have q := hkp1.2.1; rw [fldV_eq F_12, fldV_eq F_4] at q; exact q))).trans rfl
          have kk_he_12 : he_12.toInt = he_4.toInt := (congrArg Int32.toInt (show he_12 = he_4 from Value.int.inj (by have q := hkp1.2.2; rw [fldV_eq F_12, fldV_eq F_4] at q; exact q))).trans rfl
          refine lv_aload_n hx hb dX6_like_37 rfl (lv_at hl 0 rfl) ?_
          refine lv_iload_n hx hb dX6_like_38 rfl (lv_at hl 2 rfl) ?_
          refine m_gov hH (va_runV (As := [.int q_]) (rest := []) ⟨hx, hb, hml, hown, hts⟩ (c_X6_load l G h n T z A f_10 hI q_ (by omega)) (cwV 1 hts gX6_like_X6_load rfl rfl rfl (by decide +kernel) ⟨Nat.le_of_ble_eq_true rfl, Nat.le_of_ble_eq_true rfl⟩) (m_preV (ci := 6) hC hH F_12 rfl) rfl rfl hl.1 rfl (lv_room (Nat.le_of_ble_eq_true rfl)) dX6_like_39 ⟨Nat.le_of_ble_eq_true rfl, Nat.le_of_ble_eq_true rfl⟩) (fun rho_15 f_14 H locs hw hH => ?_)
          obtain ⟨hI, hfr1, hkp1⟩ := hw
          have hI : IM G h n T z A f_14 := hI
          have hfr1 : frM h f_10 f_14 := hfr1
          have hkp1 : kpM h f_10 f_14 := hkp1
          have hfr := hfr.trans hfr1
          have hkp := hkp.trans hkp1
          obtain ⟨he_16, fe_16, ca_16, ga_16, wh_16, tm_16, wm_16, ac_16, th_16, st_16, F_16, b1_16, b2_16, b3_16, b4_16, b5_16, b6_16, b7_16, b8_16⟩ : okM0 h n (f_14 (h 0)) := hI.1 0 (by decide)
          have kk_wm_16 : wm_16.toInt = wm_12.toInt := (congrArg Int32.toInt (show wm_16 = wm_12 from Value.int.inj (by have q := hkp1.1; rw [fldV_eq F_16, fldV_eq F_12] at q; exact q))).trans rfl
          have kk_ac_16 : ac_16.toInt = ac_12.toInt := (congrArg Int32.toInt (show ac_16 = ac_12 from Value.int.inj (by have q := hkp1.2.1; rw [fldV_eq F_16, fldV_eq F_12] at q; exact q))).trans rfl
          have kk_he_16 : he_16.toInt = he_12.toInt := (congrArg Int32.toInt (show he_16 = he_12 from Value.int.inj (by have q := hkp1.2.2; rw [fldV_eq F_16, fldV_eq F_12] at q; exact q))).trans rfl
          refine lv_iconst (v := 1) hx hb dX6_like_42 (by decide) ?_
          refine lv_istore_n (lv' := [(3, .int 1), (0, .ref (h 0)), (1, .int p_), (2, .int q_)]) hx hb dX6_like_43 rfl hl (by decide) rfl (fun ls hl => ?_)
          refine lv_iconst (v := 0) hx hb dX6_like_44 (by decide) ?_
          refine lv_istore (lv' := [(4, .int 0), (3, .int 1), (0, .ref (h 0)), (1, .int p_), (2, .int q_)]) hx hb dX6_like_45 hl (by decide) rfl (fun ls hl => ?_)
          have loop_47 : ∀ (fuel_ : Nat) (b3 : Int32) (k4 : Int32) (fL : mF) (h0_ : 0 ≤ k4.toInt) (h1_ : k4.toInt ≤ 6) (hI : IM G h n T z A fL) (hfr : frM h f fL) (hkp : kpM h f fL) (hb3 : b3.toInt = 0 ∨ b3.toInt = 1) (_ : ((6 : Int) - k4.toInt).toNat < fuel_) (H : Heap) (locs : List Loc) (ls : Array Slot) (_ : mH G s fL H locs) (_ : lv_has ls 5 [(0, .ref (h 0)), (1, .int p_), (2, .int q_), (3, .int b3), (4, .int k4)]), W p l e ({ frames := 1, cells := 0, slots := 0, locals := 24 } : Room) s m ([.ref (h 0), .int p_, .int q_] : List Value).toArray below meth c H locs (0 + 0 + 0) (0 + 0 + 0) (MQ below (va_Qi (fun (r : Int32) (u : mS) => IM G h n T z A u.2 ∧ frM h f u.2 ∧ kpM h f u.2 ∧ (r.toInt = 0 ∨ r.toInt = 1)) (fun (u : mS) t => mW G u.2 t) (mA G)) ([.ref (h 0), .int p_, .int q_] : List Value).toArray s 0 0 (mA G)) (F0 m 47 ls []) := by
            intro N_47
            induction N_47 with
            | zero => intro b3 k4 fL h0_ h1_ hI hfr hkp hb3 hN; omega
            | succ N_47 ih_47 =>
              intro b3 k4 fL h0_ h1_ hI hfr hkp hb3 hN_47 H locs ls hH hl
              refine lv_iload hx hb dX6_like_47 (lv_at hl 4 rfl) ?_
              refine lv_aload_n hx hb dX6_like_49 rfl (lv_at hl 0 rfl) ?_
              obtain ⟨he_17, fe_17, ca_17, ga_17, wh_17, tm_17, wm_17, ac_17, th_17, st_17, F_17, b1_17, b2_17, b3_17, b4_17, b5_17, b6_17, b7_17, b8_17⟩ : okM0 h n (fL (h 0)) := hI.1 0 (by decide)
              refine m_get (ci := 6) (v := .ref (h 1)) (C := RX6) (T := TX6) (N := 30) hx hb hC hH hts in_X6_like_X6 hown F_17 rfl 1 (by decide) (hts (.fieldLink RX6 7 "LazyStateModel" "types" "[I") (by decide +kernel)) rfl dX6_like_50 ?_
              refine lv_iload_n hx hb dX6_like_53 rfl (lv_at hl 1 rfl) ?_
              obtain ⟨g_18, hg_18, hp_18⟩ : okI G 0 24 (fun g => ∀ o, o < n → g o = T o) (fL (h 1)) := hI.1 1 (by decide)
              refine m_iald hx hb hC hH hg_18 (vp_in_iff.mpr ⟨by omega, by omega⟩) dX6_like_54 ?_
              refine lv_topi (fun x_19 ex_19 => ?_)
              refine m_goi hH (va_runS (As := [.int x_19]) (rest := [.int k4]) ⟨hx, hb, hml, hown, hts⟩ (c_X6_fieldsOf l G fL x_19) (va_cwS 1 hts gX6_like_X6_fieldsOf rfl rfl rfl (by decide +kernel) ⟨Nat.le_of_ble_eq_true rfl, Nat.le_of_ble_eq_true rfl⟩) (m_preS hC hH) rfl rfl hl.1 rfl (lv_room (Nat.le_of_ble_eq_true rfl)) dX6_like_55 ⟨Nat.le_of_ble_eq_true rfl, Nat.le_of_ble_eq_true rfl⟩) (fun r_20 rho_22 f_21 H locs hw hH => ?_)
              obtain ⟨hu, hr_20⟩ := hw
              have hu : f_21 = fL := hu
              rw [hu] at hH
              have br_20 : 3 ≤ r_20.toInt ∧ r_20.toInt ≤ 6 := by rw [hr_20]; unfold fldM; (repeat' split) <;> omega
              refine lv_icmp_ge (tgt := 120) hx hb dX6_like_58 (by decide) (fun c_23 => ?_) (fun c_23 => ?_)
              · skip
                have ic_23 : (r_20.toInt : Int) ≤ k4.toInt := ic_le rfl rfl c_23
                refine lv_iload_n hx hb dX6_like_120 rfl (lv_at hl 3 rfl) ?_
                exact m_zret (v := b3) hx hb hr (ic_nar _ (by omega)) hlk hC hH (fun _ => (0, 0)) ⟨hI, hfr, hkp, by omega⟩ (Nat.le_of_ble_eq_true rfl) (Nat.le_of_ble_eq_true rfl) dX6_like_121
              · skip
                have ic_23 : (r_20.toInt : Int) > k4.toInt := ic_nle rfl rfl c_23
                refine lv_iload_n hx hb dX6_like_61 rfl (lv_at hl 3 rfl) ?_
                refine lv_if_eq (tgt := 120) hx hb dX6_like_62 (by decide) (fun c_24 => ?_) (fun c_24 => ?_)
                · skip
                  have ic_24 : (b3.toInt : Int) = 0 := ic_eq rfl kI_0 c_24
                  refine lv_iload_n hx hb dX6_like_120 rfl (lv_at hl 3 rfl) ?_
                  exact m_zret (v := b3) hx hb hr (ic_nar _ (by omega)) hlk hC hH (fun _ => (0, 0)) ⟨hI, hfr, hkp, by omega⟩ (Nat.le_of_ble_eq_true rfl) (Nat.le_of_ble_eq_true rfl) dX6_like_121
                · skip
                  have ic_24 : (b3.toInt : Int) ≠ 0 := ic_ne rfl kI_0 c_24
                  refine lv_aload_n hx hb dX6_like_65 rfl (lv_at hl 0 rfl) ?_
                  refine lv_bipush (v := 8) hx hb dX6_like_66 (by decide) ?_
                  refine lv_iload_n hx hb dX6_like_68 rfl (lv_at hl 1 rfl) ?_
                  refine lv_imul hx hb dX6_like_69 ?_
                  refine lv_topi (fun x_25 ex_25 => ?_)
                  have ix_25 : x_25.toInt = 8 * p_.toInt := ic_mul ex_25 kI_8 rfl (by omega) (by omega)
                  refine lv_iload hx hb dX6_like_70 (lv_at hl 4 rfl) ?_
                  refine lv_iadd hx hb dX6_like_72 ?_
                  refine lv_topi (fun x_26 ex_26 => ?_)
                  have ix_26 : x_26.toInt = x_25.toInt + k4.toInt := ic_add ex_26 rfl rfl (by omega) (by omega)
                  refine lv_iconst (v := 0) hx hb dX6_like_73 (by decide) ?_
                  refine m_gov hH (va_runV (As := [.int x_26, .int 0]) (rest := []) ⟨hx, hb, hml, hown, hts⟩ (c_X6_touch l G h n T z A fL hI x_26 0 (by have := kI_0; omega) (by have := kI_0; omega)) (cwV 2 hts gX6_like_X6_touch rfl rfl rfl (by decide +kernel) ⟨Nat.le_of_ble_eq_true rfl, Nat.le_of_ble_eq_true rfl⟩) (m_preV (ci := 6) hC hH F_17 rfl) rfl rfl hl.1 rfl (lv_room (Nat.le_of_ble_eq_true rfl)) dX6_like_74 ⟨Nat.le_of_ble_eq_true rfl, Nat.le_of_ble_eq_true rfl⟩) (fun rho_29 f_28 H locs hw hH => ?_)
                  obtain ⟨hI, hfr1, hkp1⟩ := hw
                  have hI : IM G h n T z A f_28 := hI
                  have hfr1 : frM h fL f_28 := hfr1
                  have hkp1 : kpM h fL f_28 := hkp1
                  have hfr := hfr.trans hfr1
                  have hkp := hkp.trans hkp1
                  obtain ⟨he_30, fe_30, ca_30, ga_30, wh_30, tm_30, wm_30, ac_30, th_30, st_30, F_30, b1_30, b2_30, b3_30, b4_30, b5_30, b6_30, b7_30, b8_30⟩ : okM0 h n (f_28 (h 0)) := hI.1 0 (by decide)
                  have kk_wm_30 : wm_30.toInt = wm_17.toInt := (congrArg Int32.toInt (show wm_30 = wm_17 from Value.int.inj (by have q := hkp1.1; rw [fldV_eq F_30, fldV_eq F_17] at q; exact q))).trans rfl
                  have kk_ac_30 : ac_30.toInt = ac_17.toInt := (congrArg Int32.toInt (show ac_30 = ac_17 from Value.int.inj (by have q := hkp1.2.1; rw [fldV_eq F_30, fldV_eq F_17] at q; exact q))).trans rfl
                  have kk_he_30 : he_30.toInt = he_17.toInt := (congrArg Int32.toInt (show he_30 = he_17 from Value.int.inj (by have q := hkp1.2.2; rw [fldV_eq F_30, fldV_eq F_17] at q; exact q))).trans rfl
                  refine lv_aload_n hx hb dX6_like_77 rfl (lv_at hl 0 rfl) ?_
                  refine lv_bipush (v := 8) hx hb dX6_like_78 (by decide) ?_
                  refine lv_iload_n hx hb dX6_like_80 rfl (lv_at hl 2 rfl) ?_
                  refine lv_imul hx hb dX6_like_81 ?_
                  refine lv_topi (fun x_31 ex_31 => ?_)
                  have ix_31 : x_31.toInt = 8 * q_.toInt := ic_mul ex_31 kI_8 rfl (by omega) (by omega)
                  refine lv_iload hx hb dX6_like_82 (lv_at hl 4 rfl) ?_
                  refine lv_iadd hx hb dX6_like_84 ?_
                  refine lv_topi (fun x_32 ex_32 => ?_)
                  have ix_32 : x_32.toInt = x_31.toInt + k4.toInt := ic_add ex_32 rfl rfl (by omega) (by omega)
                  refine lv_iconst (v := 0) hx hb dX6_like_85 (by decide) ?_
                  refine m_gov hH (va_runV (As := [.int x_32, .int 0]) (rest := []) ⟨hx, hb, hml, hown, hts⟩ (c_X6_touch l G h n T z A f_28 hI x_32 0 (by have := kI_0; omega) (by have := kI_0; omega)) (cwV 2 hts gX6_like_X6_touch rfl rfl rfl (by decide +kernel) ⟨Nat.le_of_ble_eq_true rfl, Nat.le_of_ble_eq_true rfl⟩) (m_preV (ci := 6) hC hH F_30 rfl) rfl rfl hl.1 rfl (lv_room (Nat.le_of_ble_eq_true rfl)) dX6_like_86 ⟨Nat.le_of_ble_eq_true rfl, Nat.le_of_ble_eq_true rfl⟩) (fun rho_35 f_34 H locs hw hH => ?_)
                  obtain ⟨hI, hfr1, hkp1⟩ := hw
                  have hI : IM G h n T z A f_34 := hI
                  have hfr1 : frM h f_28 f_34 := hfr1
                  have hkp1 : kpM h f_28 f_34 := hkp1
                  have hfr := hfr.trans hfr1
                  have hkp := hkp.trans hkp1
                  obtain ⟨he_36, fe_36, ca_36, ga_36, wh_36, tm_36, wm_36, ac_36, th_36, st_36, F_36, b1_36, b2_36, b3_36, b4_36, b5_36, b6_36, b7_36, b8_36⟩ : okM0 h n (f_34 (h 0)) := hI.1 0 (by decide)
                  have kk_wm_36 : wm_36.toInt = wm_30.toInt := (congrArg Int32.toInt (show wm_36 = wm_30 from Value.int.inj (by have q := hkp1.1; rw [fldV_eq F_36, fldV_eq F_30] at q; exact q))).trans rfl
                  have kk_ac_36 : ac_36.toInt = ac_30.toInt := (congrArg Int32.toInt (show ac_36 = ac_30 from Value.int.inj (by have q := hkp1.2.1; rw [fldV_eq F_36, fldV_eq F_30] at q; exact q))).trans rfl
                  have kk_he_36 : he_36.toInt = he_30.toInt := (congrArg Int32.toInt (show he_36 = he_30 from Value.int.inj (by have q := hkp1.2.2; rw [fldV_eq F_36, fldV_eq F_30] at q; exact q))).trans rfl
                  refine lv_aload_n hx hb dX6_like_89 rfl (lv_at hl 0 rfl) ?_
                  refine lv_bipush (v := 8) hx hb dX6_like_90 (by decide) ?_
                  refine lv_iload_n hx hb dX6_like_92 rfl (lv_at hl 1 rfl) ?_
                  refine lv_imul hx hb dX6_like_93 ?_
                  refine lv_topi (fun x_37 ex_37 => ?_)
                  have ix_37 : x_37.toInt = 8 * p_.toInt := ic_mul ex_37 kI_8 rfl (by omega) (by omega)
                  refine lv_iload hx hb dX6_like_94 (lv_at hl 4 rfl) ?_
                  refine lv_iadd hx hb dX6_like_96 ?_
                  refine lv_topi (fun x_38 ex_38 => ?_)
                  have ix_38 : x_38.toInt = x_37.toInt + k4.toInt := ic_add ex_38 rfl rfl (by omega) (by omega)
                  refine m_goi hH (va_runS (As := [.int x_38]) (rest := [.ref (h 0)]) ⟨hx, hb, hml, hown, hts⟩ (c_X6_at l G f_34 x_38 (by exact ⟨by omega, by omega⟩)) (va_cwS 1 hts gX6_like_X6_at rfl rfl rfl (by decide +kernel) ⟨Nat.le_of_ble_eq_true rfl, Nat.le_of_ble_eq_true rfl⟩) (m_preS hC hH) rfl rfl hl.1 rfl (lv_room (Nat.le_of_ble_eq_true rfl)) dX6_like_97 ⟨Nat.le_of_ble_eq_true rfl, Nat.le_of_ble_eq_true rfl⟩) (fun r_39 rho_41 f_40 H locs hw hH => ?_)
                  obtain ⟨hu, hr_39⟩ := hw
                  have hu : f_40 = f_34 := hu
                  rw [hu] at hH
                  refine lv_bipush (v := 8) hx hb dX6_like_100 (by decide) ?_
                  refine lv_iload_n hx hb dX6_like_102 rfl (lv_at hl 2 rfl) ?_
                  refine lv_imul hx hb dX6_like_103 ?_
                  refine lv_topi (fun x_42 ex_42 => ?_)
                  have ix_42 : x_42.toInt = 8 * q_.toInt := ic_mul ex_42 kI_8 rfl (by omega) (by omega)
                  refine lv_iload hx hb dX6_like_104 (lv_at hl 4 rfl) ?_
                  refine lv_iadd hx hb dX6_like_106 ?_
                  refine lv_topi (fun x_43 ex_43 => ?_)
                  have ix_43 : x_43.toInt = x_42.toInt + k4.toInt := ic_add ex_43 rfl rfl (by omega) (by omega)
                  refine m_goi hH (va_runS (As := [.int x_43]) (rest := [.int r_39, .ref (h 0)]) ⟨hx, hb, hml, hown, hts⟩ (c_X6_at l G f_34 x_43 (by exact ⟨by omega, by omega⟩)) (va_cwS 1 hts gX6_like_X6_at rfl rfl rfl (by decide +kernel) ⟨Nat.le_of_ble_eq_true rfl, Nat.le_of_ble_eq_true rfl⟩) (m_preS hC hH) rfl rfl hl.1 rfl (lv_room (Nat.le_of_ble_eq_true rfl)) dX6_like_107 ⟨Nat.le_of_ble_eq_true rfl, Nat.le_of_ble_eq_true rfl⟩) (fun r_44 rho_46 f_45 H locs hw hH => ?_)
                  obtain ⟨hu, hr_44⟩ := hw
                  have hu : f_45 = f_34 := hu
                  rw [hu] at hH
                  refine m_goi hH (va_runV (As := [.int r_39, .int r_44]) (rest := []) ⟨hx, hb, hml, hown, hts⟩ (c_X6_areAlike l G h n T z A f_34 hI r_39 r_44 (by omega) (by omega)) (cwV 2 hts gX6_like_X6_areAlike rfl rfl rfl (by decide +kernel) ⟨Nat.le_of_ble_eq_true rfl, Nat.le_of_ble_eq_true rfl⟩) (m_preV (ci := 6) hC hH F_36 rfl) rfl rfl hl.1 rfl (lv_room (Nat.le_of_ble_eq_true rfl)) dX6_like_110 ⟨Nat.le_of_ble_eq_true rfl, Nat.le_of_ble_eq_true rfl⟩) (fun r_47 rho_49 f_48 H locs hw hH => ?_)
                  obtain ⟨hu, hr_47⟩ := hw
                  have hu : f_48 = f_34 := hu
                  rw [hu] at hH
                  refine lv_istore_n (lv' := [(3, .int r_47), (0, .ref (h 0)), (1, .int p_), (2, .int q_), (4, .int k4)]) hx hb dX6_like_113 rfl hl (by decide) rfl (fun ls hl => ?_)
                  obtain ⟨x_50, ex_50⟩ : ∃ y : Int32, y = k4 + 1 := ⟨_, rfl⟩
                  have ix_50 : x_50.toInt = k4.toInt + 1 := ic_add ex_50 rfl kI_1 (by omega) (by omega)
                  refine lv_iinc (v := x_50) (lv' := [(4, .int x_50), (3, .int r_47), (0, .ref (h 0)), (1, .int p_), (2, .int q_)]) hx hb dX6_like_114 hl (k := 4) rfl (by rw [ex_50]; rfl) (by decide) rfl (fun ls hl => ?_)
                  refine lv_goto (tgt := 47) hx hb dX6_like_117 (by decide) ?_
                  exact ih_47 r_47 x_50 f_34 (by omega) (by omega) hI hfr hkp (by omega) (by omega) _ _ _ hH (lv_sub hl [2, 3, 4, 1, 0] rfl)
          exact loop_47 (((6 : Int) - 0).toNat + 1) 1 0 f_14 (by have := kI_0; have := kI_1; omega) (by have := kI_0; have := kI_1; omega) hI hfr hkp (by have := kI_0; have := kI_1; omega) (by have := kI_0; have := kI_1; omega) _ _ _ hH (lv_sub hl [2, 3, 4, 1, 0] rfl)
        · skip
          have ic_8 : (x_6.toInt : Int) ≠ x_7.toInt := ic_ne rfl rfl c_8
          refine lv_iconst (v := 0) hx hb dX6_like_30 (by decide) ?_
          exact m_zret (v := 0) hx hb hr (by rfl) hlk hC hH (fun _ => (0, 0)) ⟨hI, hfr, hkp, by have := kI_0; omega⟩ (Nat.le_of_ble_eq_true rfl) (Nat.le_of_ble_eq_true rfl) dX6_like_31
  · skip
    have ic_1 : (p_.toInt : Int) = q_.toInt := ic_eq rfl rfl c_1
    refine lv_iconst (v := 1) hx hb dX6_like_5 (by decide) ?_
    exact m_zret (v := 1) hx hb hr (by rfl) hlk hC hH (fun _ => (0, 0)) ⟨hI, hfr, hkp, by have := kI_1; omega⟩ (Nat.le_of_ble_eq_true rfl) (Nat.le_of_ble_eq_true rfl) dX6_like_6
