set_option maxHeartbeats 4000000 in
set_option maxRecDepth 100000 in
theorem c_X6_changed (l : Launch) (G : mG) (h : Nat → Nat) (n : Nat) (T : Nat → Int32) (z : Nat → Nat) (A : Nat → tA) (f : mF) (hI : IM G h n T z A f) (j : Int32) (hjj : 0 ≤ j.toInt ∧ j.toInt < 192) : Met l yX6_changed wsX6_changed ({ frames := 3, cells := 0, slots := 0, locals := 70 }) (va_Pc [.ref (h 0), .int j] (mW G f)) (va_Qi (fun (r : Int32) (u : mS) => IM G h n T z A u.2 ∧ frM h f u.2) (fun (u : mS) t => mW G u.2 t) (mA G)) 0 0 (mA G) := by
  refine mMet [.ref (h 0), .int j] (cc := cX6_changed) (maxL := 2) (ret := (some .int)) (by decide) rfl (Nat.le_of_ble_eq_true rfl) ?_
  intro p e s m below meth c ls hx hb hr hml hts hown hlk hnm hC hH hl
  have hl : lv_has ls 2 [(0, .ref (h 0)), (1, .int j)] := hl
  have hj := hI.2.2.1
  have hn24 := hI.2.2.2.1
  have nIn : (nI n).toInt = (n : Int) := nI_toInt (by omega)
  have hfr : frM h f f := frM.rf
  have hkp : kpM h f f := kpM.rf
  refine lv_aload_n hx hb dX6_changed_0 rfl (lv_at hl 0 rfl) ?_
  refine lv_sipush (v := 7872) hx hb dX6_changed_1 (by decide) ?_
  refine lv_iload_n hx hb dX6_changed_4 rfl (lv_at hl 1 rfl) ?_
  refine lv_iadd hx hb dX6_changed_5 ?_
  refine lv_topi (fun x_1 ex_1 => ?_)
  have ix_1 : x_1.toInt = 7872 + j.toInt := ic_add ex_1 kI_7872 rfl (by omega) (by omega)
  refine lv_sipush (v := 192) hx hb dX6_changed_6 (by decide) ?_
  refine lv_aload_n hx hb dX6_changed_9 rfl (lv_at hl 0 rfl) ?_
  obtain ⟨he_2, fe_2, ca_2, ga_2, wh_2, tm_2, wm_2, ac_2, th_2, st_2, F_2, b1_2, b2_2, b3_2, b4_2, b5_2, b6_2, b7_2, b8_2⟩ : okM0 h n (f (h 0)) := hI.1 0 (by decide)
  refine m_get (ci := 6) (v := .int he_2) (C := RX6) (T := TX6) (N := 30) hx hb hC hH hts in_X6_changed_X6 hown F_2 rfl 2 (by decide) (hts (.fieldLink RX6 104 "LazyStateModel" "height" "I") (by decide +kernel)) rfl dX6_changed_10 ?_
  refine lv_imul hx hb dX6_changed_13 ?_
  refine lv_topi (fun x_3 ex_3 => ?_)
  have ix_3 : x_3.toInt = 192 * he_2.toInt := ic_mul ex_3 kI_192 rfl (by omega) (by omega)
  refine lv_iload_n hx hb dX6_changed_14 rfl (lv_at hl 1 rfl) ?_
  refine lv_iadd hx hb dX6_changed_15 ?_
  refine lv_topi (fun x_4 ex_4 => ?_)
  have ix_4 : x_4.toInt = x_3.toInt + j.toInt := ic_add ex_4 rfl rfl (by omega) (by omega)
  refine m_goi hH (va_runV (As := [.int x_1, .int x_4]) (rest := []) ⟨hx, hb, hml, hown, hts⟩ (c_X6_areAlike l G h n T z A f hI x_1 x_4 (by omega) (by omega)) (cwV 2 hts gX6_changed_X6_areAlike rfl rfl rfl (by decide +kernel) ⟨Nat.le_of_ble_eq_true rfl, Nat.le_of_ble_eq_true rfl⟩) (m_preV (ci := 6) hC hH F_2 rfl) rfl rfl hl.1 rfl (lv_room (Nat.le_of_ble_eq_true rfl)) dX6_changed_16 ⟨Nat.le_of_ble_eq_true rfl, Nat.le_of_ble_eq_true rfl⟩) (fun r_5 rho_7 f_6 H locs hw hH => ?_)
  obtain ⟨hu, hr_5⟩ := hw
  have hu : f_6 = f := hu
  rw [hu] at hH
  refine lv_if_eq (tgt := 27) hx hb dX6_changed_19 (by decide) (fun c_8 => ?_) (fun c_8 => ?_)
  · skip
    have ic_8 : (r_5.toInt : Int) = 0 := ic_eq rfl kI_0 c_8
    refine lv_aload_n hx hb dX6_changed_27 rfl (lv_at hl 0 rfl) ?_
    refine m_get (ci := 6) (v := .int he_2) (C := RX6) (T := TX6) (N := 30) hx hb hC hH hts in_X6_changed_X6 hown F_2 rfl 2 (by decide) (hts (.fieldLink RX6 104 "LazyStateModel" "height" "I") (by decide +kernel)) rfl dX6_changed_28 ?_
    refine lv_bipush (v := 40) hx hb dX6_changed_31 (by decide) ?_
    refine lv_icmp_ne (tgt := 39) hx hb dX6_changed_33 (by decide) (fun c_9 => ?_) (fun c_9 => ?_)
    · skip
      have ic_9 : (he_2.toInt : Int) ≠ 40 := ic_ne rfl kI_40 c_9
      refine lv_aload_n hx hb dX6_changed_39 rfl (lv_at hl 0 rfl) ?_
      refine m_gov hH (va_runV (As := []) (rest := []) ⟨hx, hb, hml, hown, hts⟩ (c_X6_rises l G h n T z A f hI ⟨_, fldV_eq F_2 2, by omega⟩ ) (cwV 0 hts gX6_changed_X6_rises rfl rfl rfl (by decide +kernel) ⟨Nat.le_of_ble_eq_true rfl, Nat.le_of_ble_eq_true rfl⟩) (m_preV (ci := 6) hC hH F_2 rfl) rfl rfl hl.1 rfl (lv_room (Nat.le_of_ble_eq_true rfl)) dX6_changed_40 ⟨Nat.le_of_ble_eq_true rfl, Nat.le_of_ble_eq_true rfl⟩) (fun rho_12 f_11 H locs hw hH => ?_)
      obtain ⟨hI, hfr1⟩ := hw
      have hI : IM G h n T z A f_11 := hI
      have hfr1 : frM h f f_11 := hfr1
      have hfr := hfr.trans hfr1
      have hkp : kpM h f_11 f_11 := kpM.rf
      refine lv_aload_n hx hb dX6_changed_43 rfl (lv_at hl 0 rfl) ?_
      obtain ⟨he_13, fe_13, ca_13, ga_13, wh_13, tm_13, wm_13, ac_13, th_13, st_13, F_13, b1_13, b2_13, b3_13, b4_13, b5_13, b6_13, b7_13, b8_13⟩ : okM0 h n (f_11 (h 0)) := hI.1 0 (by decide)
      refine m_get (ci := 6) (v := .int he_13) (C := RX6) (T := TX6) (N := 30) hx hb hC hH hts in_X6_changed_X6 hown F_13 rfl 2 (by decide) (hts (.fieldLink RX6 104 "LazyStateModel" "height" "I") (by decide +kernel)) rfl dX6_changed_44 ?_
      exact m_iret (v := he_13) hx hb hr hlk hC hH (fun _ => (0, 0)) ⟨hI, hfr⟩ (Nat.le_of_ble_eq_true rfl) (Nat.le_of_ble_eq_true rfl) dX6_changed_47
    · skip
      have ic_9 : (he_2.toInt : Int) = 40 := ic_eq rfl kI_40 c_9
      refine lv_bipush (v := (-2)) hx hb dX6_changed_36 (by decide) ?_
      exact m_iret (v := (-2)) hx hb hr hlk hC hH (fun _ => (0, 0)) ⟨hI, hfr⟩ (Nat.le_of_ble_eq_true rfl) (Nat.le_of_ble_eq_true rfl) dX6_changed_38
  · skip
    have ic_8 : (r_5.toInt : Int) ≠ 0 := ic_ne rfl kI_0 c_8
    refine lv_aload_n hx hb dX6_changed_22 rfl (lv_at hl 0 rfl) ?_
    refine m_get (ci := 6) (v := .int he_2) (C := RX6) (T := TX6) (N := 30) hx hb hC hH hts in_X6_changed_X6 hown F_2 rfl 2 (by decide) (hts (.fieldLink RX6 104 "LazyStateModel" "height" "I") (by decide +kernel)) rfl dX6_changed_23 ?_
    exact m_iret (v := he_2) hx hb hr hlk hC hH (fun _ => (0, 0)) ⟨hI, hfr⟩ (Nat.le_of_ble_eq_true rfl) (Nat.le_of_ble_eq_true rfl) dX6_changed_26
set_option maxHeartbeats 4000000 in
set_option maxRecDepth 100000 in
theorem c_X6_number (l : Launch) (G : mG) (h : Nat → Nat) (n : Nat) (T : Nat → Int32) (z : Nat → Nat) (A : Nat → tA) (f : mF) (hI : IM G h n T z A f) (o j : Int32) (v : Int64) : Met l yX6_number wsX6_number ({ frames := 4, cells := 0, slots := 0, locals := 91 }) (va_Pc [.ref (h 0), .int o, .int j, .long v] (mW G f)) (va_Qi (fun (r : Int32) (u : mS) => IM G h n T z A u.2 ∧ frM h f u.2) (fun (u : mS) t => mW G u.2 t) (mA G)) 0 0 (mA G) := by
  refine mMet [.ref (h 0), .int o, .int j, .long v] (cc := cX6_number) (maxL := 5) (ret := (some .int)) (by decide) rfl (Nat.le_of_ble_eq_true rfl) ?_
  intro p e s m below meth c ls hx hb hr hml hts hown hlk hnm hC hH hl
  have hl : lv_has ls 5 [(0, .ref (h 0)), (1, .int o), (2, .int j), (3, .long v)] := hl
  have hj := hI.2.2.1
  have hn24 := hI.2.2.2.1
  have nIn : (nI n).toInt = (n : Int) := nI_toInt (by omega)
  have hfr : frM h f f := frM.rf
  have hkp : kpM h f f := kpM.rf
  refine lv_aload_n hx hb dX6_number_0 rfl (lv_at hl 0 rfl) ?_
  refine lv_iload_n hx hb dX6_number_1 rfl (lv_at hl 1 rfl) ?_
  refine lv_iload_n hx hb dX6_number_2 rfl (lv_at hl 2 rfl) ?_
  refine lv_iconst (v := 0) hx hb dX6_number_3 (by decide) ?_
  obtain ⟨he_4, fe_4, ca_4, ga_4, wh_4, tm_4, wm_4, ac_4, th_4, st_4, F_4, b1_4, b2_4, b3_4, b4_4, b5_4, b6_4, b7_4, b8_4⟩ : okM0 h n (f (h 0)) := hI.1 0 (by decide)
  refine m_goi hH (va_runV (As := [.int o, .int j, .int 0]) (rest := []) ⟨hx, hb, hml, hown, hts⟩ (c_X6_has l G h n T z A f hI o j 0) (cwV 3 hts gX6_number_X6_has rfl rfl rfl (by decide +kernel) ⟨Nat.le_of_ble_eq_true rfl, Nat.le_of_ble_eq_true rfl⟩) (m_preV (ci := 6) hC hH F_4 rfl) rfl rfl hl.1 rfl (lv_room (Nat.le_of_ble_eq_true rfl)) dX6_number_4 ⟨Nat.le_of_ble_eq_true rfl, Nat.le_of_ble_eq_true rfl⟩) (fun r_1 rho_3 f_2 H locs hw hH => ?_)
  obtain ⟨hu, hr_1⟩ := hw
  have hu : f_2 = f := hu
  rw [hu] at hH
  refine lv_if_ne (tgt := 12) hx hb dX6_number_7 (by decide) (fun c_5 => ?_) (fun c_5 => ?_)
  · skip
    have ic_5 : (r_1.toInt : Int) ≠ 0 := ic_ne rfl kI_0 c_5
    have hr_1 := hr_1.resolve_right (by omega)
    obtain ⟨-, a1_, a2_, a3_, a4_, a5_⟩ := hr_1
    have fb_ := fldM_b (T o.toNatClampNeg).toInt
    refine lv_aload_n hx hb dX6_number_12 rfl (lv_at hl 0 rfl) ?_
    refine lv_aload_n hx hb dX6_number_13 rfl (lv_at hl 0 rfl) ?_
    refine m_get (ci := 6) (v := .int he_4) (C := RX6) (T := TX6) (N := 30) hx hb hC hH hts in_X6_number_X6 hown F_4 rfl 2 (by decide) (hts (.fieldLink RX6 104 "LazyStateModel" "height" "I") (by decide +kernel)) rfl dX6_number_14 ?_
    refine lv_bipush (v := 41) hx hb dX6_number_17 (by decide) ?_
    refine m_gov hH (va_runV (As := [.int he_4, .int 41]) (rest := []) ⟨hx, hb, hml, hown, hts⟩ (c_X6_copyAll l G h n T z A f hI he_4 41 (by have := kI_41; omega) (by have := kI_41; omega)) (cwV 2 hts gX6_number_X6_copyAll rfl rfl rfl (by decide +kernel) ⟨Nat.le_of_ble_eq_true rfl, Nat.le_of_ble_eq_true rfl⟩) (m_preV (ci := 6) hC hH F_4 rfl) rfl rfl hl.1 rfl (lv_room (Nat.le_of_ble_eq_true rfl)) dX6_number_19 ⟨Nat.le_of_ble_eq_true rfl, Nat.le_of_ble_eq_true rfl⟩) (fun rho_8 f_7 H locs hw hH => ?_)
    obtain ⟨hI, hfr1, hkp1⟩ := hw
    have hI : IM G h n T z A f_7 := hI
    have hfr1 : frM h f f_7 := hfr1
    have hkp1 : kpM h f f_7 := hkp1
    have hfr := hfr.trans hfr1
    have hkp := hkp.trans hkp1
    obtain ⟨he_9, fe_9, ca_9, ga_9, wh_9, tm_9, wm_9, ac_9, th_9, st_9, F_9, b1_9, b2_9, b3_9, b4_9, b5_9, b6_9, b7_9, b8_9⟩ : okM0 h n (f_7 (h 0)) := hI.1 0 (by decide)
    have kk_wm_9 : wm_9.toInt = wm_4.toInt := (congrArg Int32.toInt (show wm_9 = wm_4 from Value.int.inj (by have q := hkp1.1; rw [fldV_eq F_9, fldV_eq F_4] at q; exact q))).trans rfl
    have kk_ac_9 : ac_9.toInt = ac_4.toInt := (congrArg Int32.toInt (show ac_9 = ac_4 from Value.int.inj (by have q := hkp1.2.1; rw [fldV_eq F_9, fldV_eq F_4] at q; exact q))).trans rfl
    have kk_he_9 : he_9.toInt = he_4.toInt := (congrArg Int32.toInt (show he_9 = he_4 from Value.int.inj (by have q := hkp1.2.2; rw [fldV_eq F_9, fldV_eq F_4] at q; exact q))).trans rfl
    refine lv_aload_n hx hb dX6_number_22 rfl (lv_at hl 0 rfl) ?_
    refine m_get (ci := 6) (v := .ref (h 3)) (C := RX6) (T := TX6) (N := 30) hx hb hC hH hts in_X6_number_X6 hown F_9 rfl 3 (by decide) (hts (.fieldLink RX6 13 "LazyStateModel" "numbers" "[J") (by decide +kernel)) rfl dX6_number_23 ?_
    refine lv_sipush (v := 7872) hx hb dX6_number_26 (by decide) ?_
    refine lv_bipush (v := 8) hx hb dX6_number_29 (by decide) ?_
    refine lv_iload_n hx hb dX6_number_31 rfl (lv_at hl 1 rfl) ?_
    refine lv_imul hx hb dX6_number_32 ?_
    refine lv_topi (fun x_10 ex_10 => ?_)
    have ix_10 : x_10.toInt = 8 * o.toInt := ic_mul ex_10 kI_8 rfl (by omega) (by omega)
    refine lv_iadd hx hb dX6_number_33 ?_
    refine lv_topi (fun x_11 ex_11 => ?_)
    have ix_11 : x_11.toInt = 7872 + x_10.toInt := ic_add ex_11 kI_7872 rfl (by omega) (by omega)
    refine lv_iload_n hx hb dX6_number_34 rfl (lv_at hl 2 rfl) ?_
    refine lv_iadd hx hb dX6_number_35 ?_
    refine lv_topi (fun x_12 ex_12 => ?_)
    have ix_12 : x_12.toInt = x_11.toInt + j.toInt := ic_add ex_12 rfl rfl (by omega) (by omega)
    refine lv_lload_n hx hb dX6_number_36 rfl (lv_at hl 3 rfl) ?_
    obtain ⟨g_13, hg_13, hp_13⟩ : okJ G 8064 (pNu n T) (f_7 (h 3)) := hI.1 3 (by decide)
    refine m_last hx hb hC hH hg_13 (vp_in_iff.mpr ⟨by omega, by omega⟩) dX6_number_37 (fun H locs hH => ?_)
    obtain ⟨f_14, ef_14⟩ : ∃ zz_ : mF, zz_ = va_up f_7 (h 3) (some (.inl (gk G 1, 8064, .inr (.inl (vp_updL g_13 x_12.toNatClampNeg v))))) := ⟨_, rfl⟩
    rw [← ef_14] at hH
    have F_15 := upk F_9 ef_14 (neM hj (by decide) (by decide) (by decide))
    have hI : IM G h n T z A f_14 := hI.arr 3 (by decide) (by decide) (by decide) (by decide) (show okJ G 8064 (pNu n T) _ from ⟨_, rfl, pNu_put (i := x_12) (a := 41) (o := o.toInt) (j := j.toInt) (on := o.toNatClampNeg) hp_13 (by omega) (by omega) (by omega) (by omega) (by omega) (by omega) (by omega) (by omega) rfl (fun q => by have := kI_0; omega)⟩) ef_14
    have hfr := hfr.up 3 (by decide) ef_14
    have hkp := hkp.up 3 hj (by decide) (by decide) ef_14
    refine lv_aload_n hx hb dX6_number_38 rfl (lv_at hl 0 rfl) ?_
    refine lv_bipush (v := 8) hx hb dX6_number_39 (by decide) ?_
    refine lv_iload_n hx hb dX6_number_41 rfl (lv_at hl 1 rfl) ?_
    refine lv_imul hx hb dX6_number_42 ?_
    refine lv_topi (fun x_16 ex_16 => ?_)
    have ix_16 : x_16.toInt = 8 * o.toInt := ic_mul ex_16 kI_8 rfl (by omega) (by omega)
    refine lv_iload_n hx hb dX6_number_43 rfl (lv_at hl 2 rfl) ?_
    refine lv_iadd hx hb dX6_number_44 ?_
    refine lv_topi (fun x_17 ex_17 => ?_)
    have ix_17 : x_17.toInt = x_16.toInt + j.toInt := ic_add ex_17 rfl rfl (by omega) (by omega)
    refine m_goi hH (va_runV (As := [.int x_17]) (rest := []) ⟨hx, hb, hml, hown, hts⟩ (c_X6_changed l G h n T z A f_14 hI x_17 (by omega)) (cwV 1 hts gX6_number_X6_changed rfl rfl rfl (by decide +kernel) ⟨Nat.le_of_ble_eq_true rfl, Nat.le_of_ble_eq_true rfl⟩) (m_preV (ci := 6) hC hH F_15 rfl) rfl rfl hl.1 rfl (lv_room (Nat.le_of_ble_eq_true rfl)) dX6_number_45 ⟨Nat.le_of_ble_eq_true rfl, Nat.le_of_ble_eq_true rfl⟩) (fun r_18 rho_20 f_19 H locs hw hH => ?_)
    obtain ⟨hI, hfr1⟩ := hw
    have hI : IM G h n T z A f_19 := hI
    have hfr1 : frM h f_14 f_19 := hfr1
    have hfr := hfr.trans hfr1
    have hkp : kpM h f_19 f_19 := kpM.rf
    exact m_iret (v := r_18) hx hb hr hlk hC hH (fun _ => (0, 0)) ⟨hI, hfr⟩ (Nat.le_of_ble_eq_true rfl) (Nat.le_of_ble_eq_true rfl) dX6_number_48
  · skip
    have ic_5 : (r_1.toInt : Int) = 0 := ic_eq rfl kI_0 c_5
    refine lv_iconst (v := (-1)) hx hb dX6_number_10 (by decide) ?_
    exact m_iret (v := (-1)) hx hb hr hlk hC hH (fun _ => (0, 0)) ⟨hI, hfr⟩ (Nat.le_of_ble_eq_true rfl) (Nat.le_of_ble_eq_true rfl) dX6_number_11
set_option maxHeartbeats 4000000 in
set_option maxRecDepth 100000 in
theorem c_X6_link (l : Launch) (G : mG) (h : Nat → Nat) (n : Nat) (T : Nat → Int32) (z : Nat → Nat) (A : Nat → tA) (f : mF) (hI : IM G h n T z A f) (o j q : Int32) : Met l yX6_link wsX6_link ({ frames := 4, cells := 0, slots := 0, locals := 91 }) (va_Pc [.ref (h 0), .int o, .int j, .int q] (mW G f)) (va_Qi (fun (r : Int32) (u : mS) => IM G h n T z A u.2 ∧ frM h f u.2) (fun (u : mS) t => mW G u.2 t) (mA G)) 0 0 (mA G) := by
  refine mMet [.ref (h 0), .int o, .int j, .int q] (cc := cX6_link) (maxL := 4) (ret := (some .int)) (by decide) rfl (Nat.le_of_ble_eq_true rfl) ?_
  intro p e s m below meth c ls hx hb hr hml hts hown hlk hnm hC hH hl
  have hl : lv_has ls 4 [(0, .ref (h 0)), (1, .int o), (2, .int j), (3, .int q)] := hl
  have hj := hI.2.2.1
  have hn24 := hI.2.2.2.1
  have nIn : (nI n).toInt = (n : Int) := nI_toInt (by omega)
  have hfr : frM h f f := frM.rf
  have hkp : kpM h f f := kpM.rf
  refine lv_aload_n hx hb dX6_link_0 rfl (lv_at hl 0 rfl) ?_
  refine lv_iload_n hx hb dX6_link_1 rfl (lv_at hl 1 rfl) ?_
  refine lv_iload_n hx hb dX6_link_2 rfl (lv_at hl 2 rfl) ?_
  refine lv_iconst (v := 1) hx hb dX6_link_3 (by decide) ?_
  obtain ⟨he_4, fe_4, ca_4, ga_4, wh_4, tm_4, wm_4, ac_4, th_4, st_4, F_4, b1_4, b2_4, b3_4, b4_4, b5_4, b6_4, b7_4, b8_4⟩ : okM0 h n (f (h 0)) := hI.1 0 (by decide)
  refine m_goi hH (va_runV (As := [.int o, .int j, .int 1]) (rest := []) ⟨hx, hb, hml, hown, hts⟩ (c_X6_has l G h n T z A f hI o j 1) (cwV 3 hts gX6_link_X6_has rfl rfl rfl (by decide +kernel) ⟨Nat.le_of_ble_eq_true rfl, Nat.le_of_ble_eq_true rfl⟩) (m_preV (ci := 6) hC hH F_4 rfl) rfl rfl hl.1 rfl (lv_room (Nat.le_of_ble_eq_true rfl)) dX6_link_4 ⟨Nat.le_of_ble_eq_true rfl, Nat.le_of_ble_eq_true rfl⟩) (fun r_1 rho_3 f_2 H locs hw hH => ?_)
  obtain ⟨hu, hr_1⟩ := hw
  have hu : f_2 = f := hu
  rw [hu] at hH
  refine lv_if_eq (tgt := 24) hx hb dX6_link_7 (by decide) (fun c_5 => ?_) (fun c_5 => ?_)
  · skip
    have ic_5 : (r_1.toInt : Int) = 0 := ic_eq rfl kI_0 c_5
    refine lv_iconst (v := (-1)) hx hb dX6_link_24 (by decide) ?_
    exact m_iret (v := (-1)) hx hb hr hlk hC hH (fun _ => (0, 0)) ⟨hI, hfr⟩ (Nat.le_of_ble_eq_true rfl) (Nat.le_of_ble_eq_true rfl) dX6_link_25
  · skip
    have ic_5 : (r_1.toInt : Int) ≠ 0 := ic_ne rfl kI_0 c_5
    have hr_1 := hr_1.resolve_right (by omega)
    obtain ⟨-, a1_, a2_, a3_, a4_, a5_⟩ := hr_1
    have fb_ := fldM_b (T o.toNatClampNeg).toInt
    refine lv_iload_n hx hb dX6_link_10 rfl (lv_at hl 3 rfl) ?_
    refine lv_bipush (v := (-3)) hx hb dX6_link_11 (by decide) ?_
    refine lv_icmp_eq (tgt := 26) hx hb dX6_link_13 (by decide) (fun c_6 => ?_) (fun c_6 => ?_)
    · skip
      have ic_6 : (q.toInt : Int) = (-3) := ic_eq rfl kI_m3 c_6
      refine lv_aload_n hx hb dX6_link_26 rfl (lv_at hl 0 rfl) ?_
      refine lv_aload_n hx hb dX6_link_27 rfl (lv_at hl 0 rfl) ?_
      refine m_get (ci := 6) (v := .int he_4) (C := RX6) (T := TX6) (N := 30) hx hb hC hH hts in_X6_link_X6 hown F_4 rfl 2 (by decide) (hts (.fieldLink RX6 104 "LazyStateModel" "height" "I") (by decide +kernel)) rfl dX6_link_28 ?_
      refine lv_bipush (v := 41) hx hb dX6_link_31 (by decide) ?_
      refine m_gov hH (va_runV (As := [.int he_4, .int 41]) (rest := []) ⟨hx, hb, hml, hown, hts⟩ (c_X6_copyAll l G h n T z A f hI he_4 41 (by have := kI_41; omega) (by have := kI_41; omega)) (cwV 2 hts gX6_link_X6_copyAll rfl rfl rfl (by decide +kernel) ⟨Nat.le_of_ble_eq_true rfl, Nat.le_of_ble_eq_true rfl⟩) (m_preV (ci := 6) hC hH F_4 rfl) rfl rfl hl.1 rfl (lv_room (Nat.le_of_ble_eq_true rfl)) dX6_link_33 ⟨Nat.le_of_ble_eq_true rfl, Nat.le_of_ble_eq_true rfl⟩) (fun rho_9 f_8 H locs hw hH => ?_)
      obtain ⟨hI, hfr1, hkp1⟩ := hw
      have hI : IM G h n T z A f_8 := hI
      have hfr1 : frM h f f_8 := hfr1
      have hkp1 : kpM h f f_8 := hkp1
      have hfr := hfr.trans hfr1
      have hkp := hkp.trans hkp1
      obtain ⟨he_10, fe_10, ca_10, ga_10, wh_10, tm_10, wm_10, ac_10, th_10, st_10, F_10, b1_10, b2_10, b3_10, b4_10, b5_10, b6_10, b7_10, b8_10⟩ : okM0 h n (f_8 (h 0)) := hI.1 0 (by decide)
      have kk_wm_10 : wm_10.toInt = wm_4.toInt := (congrArg Int32.toInt (show wm_10 = wm_4 from Value.int.inj (by have q := hkp1.1; rw [fldV_eq F_10, fldV_eq F_4] at q; exact q))).trans rfl
      have kk_ac_10 : ac_10.toInt = ac_4.toInt := (congrArg Int32.toInt (show ac_10 = ac_4 from Value.int.inj (by have q := hkp1.2.1; rw [fldV_eq F_10, fldV_eq F_4] at q; exact q))).trans rfl
      have kk_he_10 : he_10.toInt = he_4.toInt := (congrArg Int32.toInt (show he_10 = he_4 from Value.int.inj (by have q := hkp1.2.2; rw [fldV_eq F_10, fldV_eq F_4] at q; exact q))).trans rfl
      refine lv_aload_n hx hb dX6_link_36 rfl (lv_at hl 0 rfl) ?_
      refine m_get (ci := 6) (v := .ref (h 3)) (C := RX6) (T := TX6) (N := 30) hx hb hC hH hts in_X6_link_X6 hown F_10 rfl 3 (by decide) (hts (.fieldLink RX6 13 "LazyStateModel" "numbers" "[J") (by decide +kernel)) rfl dX6_link_37 ?_
      refine lv_sipush (v := 7872) hx hb dX6_link_40 (by decide) ?_
      refine lv_bipush (v := 8) hx hb dX6_link_43 (by decide) ?_
      refine lv_iload_n hx hb dX6_link_45 rfl (lv_at hl 1 rfl) ?_
      refine lv_imul hx hb dX6_link_46 ?_
      refine lv_topi (fun x_11 ex_11 => ?_)
      have ix_11 : x_11.toInt = 8 * o.toInt := ic_mul ex_11 kI_8 rfl (by omega) (by omega)
      refine lv_iadd hx hb dX6_link_47 ?_
      refine lv_topi (fun x_12 ex_12 => ?_)
      have ix_12 : x_12.toInt = 7872 + x_11.toInt := ic_add ex_12 kI_7872 rfl (by omega) (by omega)
      refine lv_iload_n hx hb dX6_link_48 rfl (lv_at hl 2 rfl) ?_
      refine lv_iadd hx hb dX6_link_49 ?_
      refine lv_topi (fun x_13 ex_13 => ?_)
      have ix_13 : x_13.toInt = x_12.toInt + j.toInt := ic_add ex_13 rfl rfl (by omega) (by omega)
      refine lv_iload_n hx hb dX6_link_50 rfl (lv_at hl 3 rfl) ?_
      refine lv_i2l hx hb dX6_link_51 rfl ?_
      refine lv_topl (fun y_14 ey_14 => ?_)
      have iy_14 : y_14.toInt = q.toInt := lc_i2l ey_14 rfl
      have gy_14 := ic_rng q
      obtain ⟨g_15, hg_15, hp_15⟩ : okJ G 8064 (pNu n T) (f_8 (h 3)) := hI.1 3 (by decide)
      refine m_last hx hb hC hH hg_15 (vp_in_iff.mpr ⟨by omega, by omega⟩) dX6_link_52 (fun H locs hH => ?_)
      obtain ⟨f_16, ef_16⟩ : ∃ zz_ : mF, zz_ = va_up f_8 (h 3) (some (.inl (gk G 1, 8064, .inr (.inl (vp_updL g_15 x_13.toNatClampNeg y_14))))) := ⟨_, rfl⟩
      rw [← ef_16] at hH
      have F_17 := upk F_10 ef_16 (neM hj (by decide) (by decide) (by decide))
      have hI : IM G h n T z A f_16 := hI.arr 3 (by decide) (by decide) (by decide) (by decide) (show okJ G 8064 (pNu n T) _ from ⟨_, rfl, pNu_put (i := x_13) (a := 41) (o := o.toInt) (j := j.toInt) (on := o.toNatClampNeg) hp_15 (by omega) (by omega) (by omega) (by omega) (by omega) (by omega) (by omega) (by omega) rfl (fun q => by omega)⟩) ef_16
      have hfr := hfr.up 3 (by decide) ef_16
      have hkp := hkp.up 3 hj (by decide) (by decide) ef_16
      refine lv_aload_n hx hb dX6_link_53 rfl (lv_at hl 0 rfl) ?_
      refine lv_bipush (v := 8) hx hb dX6_link_54 (by decide) ?_
      refine lv_iload_n hx hb dX6_link_56 rfl (lv_at hl 1 rfl) ?_
      refine lv_imul hx hb dX6_link_57 ?_
      refine lv_topi (fun x_18 ex_18 => ?_)
      have ix_18 : x_18.toInt = 8 * o.toInt := ic_mul ex_18 kI_8 rfl (by omega) (by omega)
      refine lv_iload_n hx hb dX6_link_58 rfl (lv_at hl 2 rfl) ?_
      refine lv_iadd hx hb dX6_link_59 ?_
      refine lv_topi (fun x_19 ex_19 => ?_)
      have ix_19 : x_19.toInt = x_18.toInt + j.toInt := ic_add ex_19 rfl rfl (by omega) (by omega)
      refine m_goi hH (va_runV (As := [.int x_19]) (rest := []) ⟨hx, hb, hml, hown, hts⟩ (c_X6_changed l G h n T z A f_16 hI x_19 (by omega)) (cwV 1 hts gX6_link_X6_changed rfl rfl rfl (by decide +kernel) ⟨Nat.le_of_ble_eq_true rfl, Nat.le_of_ble_eq_true rfl⟩) (m_preV (ci := 6) hC hH F_17 rfl) rfl rfl hl.1 rfl (lv_room (Nat.le_of_ble_eq_true rfl)) dX6_link_60 ⟨Nat.le_of_ble_eq_true rfl, Nat.le_of_ble_eq_true rfl⟩) (fun r_20 rho_22 f_21 H locs hw hH => ?_)
      obtain ⟨hI, hfr1⟩ := hw
      have hI : IM G h n T z A f_21 := hI
      have hfr1 : frM h f_16 f_21 := hfr1
      have hfr := hfr.trans hfr1
      have hkp : kpM h f_21 f_21 := kpM.rf
      exact m_iret (v := r_20) hx hb hr hlk hC hH (fun _ => (0, 0)) ⟨hI, hfr⟩ (Nat.le_of_ble_eq_true rfl) (Nat.le_of_ble_eq_true rfl) dX6_link_63
    · skip
      have ic_6 : (q.toInt : Int) ≠ (-3) := ic_ne rfl kI_m3 c_6
      refine lv_aload_n hx hb dX6_link_16 rfl (lv_at hl 0 rfl) ?_
      refine lv_iload_n hx hb dX6_link_17 rfl (lv_at hl 3 rfl) ?_
      refine m_goi hH (va_runV (As := [.int q]) (rest := []) ⟨hx, hb, hml, hown, hts⟩ (c_X6_isObject l G h n T z A f hI q) (cwV 1 hts gX6_link_X6_isObject rfl rfl rfl (by decide +kernel) ⟨Nat.le_of_ble_eq_true rfl, Nat.le_of_ble_eq_true rfl⟩) (m_preV (ci := 6) hC hH F_4 rfl) rfl rfl hl.1 rfl (lv_room (Nat.le_of_ble_eq_true rfl)) dX6_link_18 ⟨Nat.le_of_ble_eq_true rfl, Nat.le_of_ble_eq_true rfl⟩) (fun r_23 rho_25 f_24 H locs hw hH => ?_)
      obtain ⟨hu, hr_23⟩ := hw
      have hu : f_24 = f := hu
      rw [hu] at hH
      refine lv_if_ne (tgt := 26) hx hb dX6_link_21 (by decide) (fun c_26 => ?_) (fun c_26 => ?_)
      · skip
        have ic_26 : (r_23.toInt : Int) ≠ 0 := ic_ne rfl kI_0 c_26
        refine lv_aload_n hx hb dX6_link_26 rfl (lv_at hl 0 rfl) ?_
        refine lv_aload_n hx hb dX6_link_27 rfl (lv_at hl 0 rfl) ?_
        refine m_get (ci := 6) (v := .int he_4) (C := RX6) (T := TX6) (N := 30) hx hb hC hH hts in_X6_link_X6 hown F_4 rfl 2 (by decide) (hts (.fieldLink RX6 104 "LazyStateModel" "height" "I") (by decide +kernel)) rfl dX6_link_28 ?_
        refine lv_bipush (v := 41) hx hb dX6_link_31 (by decide) ?_
        refine m_gov hH (va_runV (As := [.int he_4, .int 41]) (rest := []) ⟨hx, hb, hml, hown, hts⟩ (c_X6_copyAll l G h n T z A f hI he_4 41 (by have := kI_41; omega) (by have := kI_41; omega)) (cwV 2 hts gX6_link_X6_copyAll rfl rfl rfl (by decide +kernel) ⟨Nat.le_of_ble_eq_true rfl, Nat.le_of_ble_eq_true rfl⟩) (m_preV (ci := 6) hC hH F_4 rfl) rfl rfl hl.1 rfl (lv_room (Nat.le_of_ble_eq_true rfl)) dX6_link_33 ⟨Nat.le_of_ble_eq_true rfl, Nat.le_of_ble_eq_true rfl⟩) (fun rho_29 f_28 H locs hw hH => ?_)
        obtain ⟨hI, hfr1, hkp1⟩ := hw
        have hI : IM G h n T z A f_28 := hI
        have hfr1 : frM h f f_28 := hfr1
        have hkp1 : kpM h f f_28 := hkp1
        have hfr := hfr.trans hfr1
        have hkp := hkp.trans hkp1
        obtain ⟨he_30, fe_30, ca_30, ga_30, wh_30, tm_30, wm_30, ac_30, th_30, st_30, F_30, b1_30, b2_30, b3_30, b4_30, b5_30, b6_30, b7_30, b8_30⟩ : okM0 h n (f_28 (h 0)) := hI.1 0 (by decide)
        have kk_wm_30 : wm_30.toInt = wm_4.toInt := (congrArg Int32.toInt (show wm_30 = wm_4 from Value.int.inj (by have q := hkp1.1; rw [fldV_eq F_30, fldV_eq F_4] at q; exact q))).trans rfl
        have kk_ac_30 : ac_30.toInt = ac_4.toInt := (congrArg Int32.toInt (show ac_30 = ac_4 from Value.int.inj (by have q := hkp1.2.1; rw [fldV_eq F_30, fldV_eq F_4] at q; exact q))).trans rfl
        have kk_he_30 : he_30.toInt = he_4.toInt := (congrArg Int32.toInt (show he_30 = he_4 from Value.int.inj (by have q := hkp1.2.2; rw [fldV_eq F_30, fldV_eq F_4] at q; exact q))).trans rfl
        refine lv_aload_n hx hb dX6_link_36 rfl (lv_at hl 0 rfl) ?_
        refine m_get (ci := 6) (v := .ref (h 3)) (C := RX6) (T := TX6) (N := 30) hx hb hC hH hts in_X6_link_X6 hown F_30 rfl 3 (by decide) (hts (.fieldLink RX6 13 "LazyStateModel" "numbers" "[J") (by decide +kernel)) rfl dX6_link_37 ?_
        refine lv_sipush (v := 7872) hx hb dX6_link_40 (by decide) ?_
        refine lv_bipush (v := 8) hx hb dX6_link_43 (by decide) ?_
        refine lv_iload_n hx hb dX6_link_45 rfl (lv_at hl 1 rfl) ?_
        refine lv_imul hx hb dX6_link_46 ?_
        refine lv_topi (fun x_31 ex_31 => ?_)
        have ix_31 : x_31.toInt = 8 * o.toInt := ic_mul ex_31 kI_8 rfl (by omega) (by omega)
        refine lv_iadd hx hb dX6_link_47 ?_
        refine lv_topi (fun x_32 ex_32 => ?_)
        have ix_32 : x_32.toInt = 7872 + x_31.toInt := ic_add ex_32 kI_7872 rfl (by omega) (by omega)
        refine lv_iload_n hx hb dX6_link_48 rfl (lv_at hl 2 rfl) ?_
        refine lv_iadd hx hb dX6_link_49 ?_
        refine lv_topi (fun x_33 ex_33 => ?_)
        have ix_33 : x_33.toInt = x_32.toInt + j.toInt := ic_add ex_33 rfl rfl (by omega) (by omega)
        refine lv_iload_n hx hb dX6_link_50 rfl (lv_at hl 3 rfl) ?_
        refine lv_i2l hx hb dX6_link_51 rfl ?_
        refine lv_topl (fun y_34 ey_34 => ?_)
        have iy_34 : y_34.toInt = q.toInt := lc_i2l ey_34 rfl
        have gy_34 := ic_rng q
        obtain ⟨g_35, hg_35, hp_35⟩ : okJ G 8064 (pNu n T) (f_28 (h 3)) := hI.1 3 (by decide)
        refine m_last hx hb hC hH hg_35 (vp_in_iff.mpr ⟨by omega, by omega⟩) dX6_link_52 (fun H locs hH => ?_)
        obtain ⟨f_36, ef_36⟩ : ∃ zz_ : mF, zz_ = va_up f_28 (h 3) (some (.inl (gk G 1, 8064, .inr (.inl (vp_updL g_35 x_33.toNatClampNeg y_34))))) := ⟨_, rfl⟩
        rw [← ef_36] at hH
        have F_37 := upk F_30 ef_36 (neM hj (by decide) (by decide) (by decide))
        have hI : IM G h n T z A f_36 := hI.arr 3 (by decide) (by decide) (by decide) (by decide) (show okJ G 8064 (pNu n T) _ from ⟨_, rfl, pNu_put (i := x_33) (a := 41) (o := o.toInt) (j := j.toInt) (on := o.toNatClampNeg) hp_35 (by omega) (by omega) (by omega) (by omega) (by omega) (by omega) (by omega) (by omega) rfl (fun q => by omega)⟩) ef_36
        have hfr := hfr.up 3 (by decide) ef_36
        have hkp := hkp.up 3 hj (by decide) (by decide) ef_36
        refine lv_aload_n hx hb dX6_link_53 rfl (lv_at hl 0 rfl) ?_
        refine lv_bipush (v := 8) hx hb dX6_link_54 (by decide) ?_
        refine lv_iload_n hx hb dX6_link_56 rfl (lv_at hl 1 rfl) ?_
        refine lv_imul hx hb dX6_link_57 ?_
        refine lv_topi (fun x_38 ex_38 => ?_)
        have ix_38 : x_38.toInt = 8 * o.toInt := ic_mul ex_38 kI_8 rfl (by omega) (by omega)
        refine lv_iload_n hx hb dX6_link_58 rfl (lv_at hl 2 rfl) ?_
        refine lv_iadd hx hb dX6_link_59 ?_
        refine lv_topi (fun x_39 ex_39 => ?_)
        have ix_39 : x_39.toInt = x_38.toInt + j.toInt := ic_add ex_39 rfl rfl (by omega) (by omega)
        refine m_goi hH (va_runV (As := [.int x_39]) (rest := []) ⟨hx, hb, hml, hown, hts⟩ (c_X6_changed l G h n T z A f_36 hI x_39 (by omega)) (cwV 1 hts gX6_link_X6_changed rfl rfl rfl (by decide +kernel) ⟨Nat.le_of_ble_eq_true rfl, Nat.le_of_ble_eq_true rfl⟩) (m_preV (ci := 6) hC hH F_37 rfl) rfl rfl hl.1 rfl (lv_room (Nat.le_of_ble_eq_true rfl)) dX6_link_60 ⟨Nat.le_of_ble_eq_true rfl, Nat.le_of_ble_eq_true rfl⟩) (fun r_40 rho_42 f_41 H locs hw hH => ?_)
        obtain ⟨hI, hfr1⟩ := hw
        have hI : IM G h n T z A f_41 := hI
        have hfr1 : frM h f_36 f_41 := hfr1
        have hfr := hfr.trans hfr1
        have hkp : kpM h f_41 f_41 := kpM.rf
        exact m_iret (v := r_40) hx hb hr hlk hC hH (fun _ => (0, 0)) ⟨hI, hfr⟩ (Nat.le_of_ble_eq_true rfl) (Nat.le_of_ble_eq_true rfl) dX6_link_63
      · skip
        have ic_26 : (r_23.toInt : Int) = 0 := ic_eq rfl kI_0 c_26
        refine lv_iconst (v := (-1)) hx hb dX6_link_24 (by decide) ?_
        exact m_iret (v := (-1)) hx hb hr hlk hC hH (fun _ => (0, 0)) ⟨hI, hfr⟩ (Nat.le_of_ble_eq_true rfl) (Nat.le_of_ble_eq_true rfl) dX6_link_25
set_option maxHeartbeats 4000000 in
set_option maxRecDepth 100000 in
theorem c_X6_newRow (l : Launch) (G : mG) (h : Nat → Nat) (n : Nat) (T : Nat → Int32) (z : Nat → Nat) (A : Nat → tA) (f : mF) (hI : IM G h n T z A f) (j q : Int32) (hjj : 0 ≤ j.toInt ∧ j.toInt < 192) (hq : q.toInt ≤ 8) : Met l yX6_newRow wsX6_newRow ({ frames := 0, cells := 0, slots := 0, locals := 0 }) (va_Pc [.ref (h 0), .int j, .int q] (mW G f)) (va_Qv (fun (u : mS) => IM G h n T z A u.2 ∧ frM h f u.2 ∧ kpM h f u.2) (fun (u : mS) t => mW G u.2 t) (mA G)) 0 0 (mA G) := by
  refine mMet [.ref (h 0), .int j, .int q] (cc := cX6_newRow) (maxL := 4) (ret := none) (by decide) rfl (Nat.le_of_ble_eq_true rfl) ?_
  intro p e s m below meth c ls hx hb hr hml hts hown hlk hnm hC hH hl
  have hl : lv_has ls 4 [(0, .ref (h 0)), (1, .int j), (2, .int q)] := hl
  have hj := hI.2.2.1
  have hn24 := hI.2.2.2.1
  have nIn : (nI n).toInt = (n : Int) := nI_toInt (by omega)
  have hfr : frM h f f := frM.rf
  have hkp : kpM h f f := kpM.rf
  refine lv_aload_n hx hb dX6_newRow_0 rfl (lv_at hl 0 rfl) ?_
  obtain ⟨he_1, fe_1, ca_1, ga_1, wh_1, tm_1, wm_1, ac_1, th_1, st_1, F_1, b1_1, b2_1, b3_1, b4_1, b5_1, b6_1, b7_1, b8_1⟩ : okM0 h n (f (h 0)) := hI.1 0 (by decide)
  refine m_get (ci := 6) (v := .ref (h 4)) (C := RX6) (T := TX6) (N := 30) hx hb hC hH hts in_X6_newRow_X6 hown F_1 rfl 4 (by decide) (hts (.fieldLink RX6 17 "LazyStateModel" "sizes" "[I") (by decide +kernel)) rfl dX6_newRow_1 ?_
  refine lv_sipush (v := 7872) hx hb dX6_newRow_4 (by decide) ?_
  refine lv_iload_n hx hb dX6_newRow_7 rfl (lv_at hl 1 rfl) ?_
  refine lv_iadd hx hb dX6_newRow_8 ?_
  refine lv_topi (fun x_2 ex_2 => ?_)
  have ix_2 : x_2.toInt = 7872 + j.toInt := ic_add ex_2 kI_7872 rfl (by omega) (by omega)
  refine lv_iload_n hx hb dX6_newRow_9 rfl (lv_at hl 2 rfl) ?_
  obtain ⟨g_3, hg_3, hp_3⟩ : okI G 0 8064 (fun g => ∀ L, L < 8064 → (g L).toInt ≤ 8) (f (h 4)) := hI.1 4 (by decide)
  refine m_iast hx hb hC hH hg_3 (vp_in_iff.mpr ⟨by omega, by omega⟩) dX6_newRow_10 (fun H locs hH => ?_)
  obtain ⟨f_4, ef_4⟩ : ∃ zz_ : mF, zz_ = va_up f (h 4) (some (.inl (gk G 0, 8064, .inl (upd g_3 x_2.toNatClampNeg q)))) := ⟨_, rfl⟩
  rw [← ef_4] at hH
  have F_5 := upk F_1 ef_4 (neM hj (by decide) (by decide) (by decide))
  have hI : IM G h n T z A f_4 := hI.arr 4 (by decide) (by decide) (by decide) (by decide) (show okI G 0 8064 (fun g => ∀ L, L < 8064 → (g L).toInt ≤ 8) _ from ⟨_, rfl, upd_all (P := fun x : Int32 => x.toInt ≤ 8) hp_3 (by omega)⟩) ef_4
  have hfr := hfr.up 4 (by decide) ef_4
  have hkp := hkp.up 4 hj (by decide) (by decide) ef_4
  refine lv_iconst (v := 0) hx hb dX6_newRow_11 (by decide) ?_
  refine lv_istore_n (lv' := [(3, .int 0), (0, .ref (h 0)), (1, .int j), (2, .int q)]) hx hb dX6_newRow_12 rfl hl (by decide) rfl (fun ls hl => ?_)
  have loop_13 : ∀ (fuel_ : Nat) (k3 : Int32) (fL : mF) (h0_ : 0 ≤ k3.toInt) (h1_ : k3.toInt ≤ 8) (hI : IM G h n T z A fL) (hfr : frM h f fL) (hkp : kpM h f fL) (_ : ((8 : Int) - k3.toInt).toNat < fuel_) (H : Heap) (locs : List Loc) (ls : Array Slot) (_ : mH G s fL H locs) (_ : lv_has ls 4 [(0, .ref (h 0)), (1, .int j), (2, .int q), (3, .int k3)]), W p l e ({ frames := 0, cells := 0, slots := 0, locals := 0 } : Room) s m ([.ref (h 0), .int j, .int q] : List Value).toArray below meth c H locs 0 0 (MQ below (va_Qv (fun (u : mS) => IM G h n T z A u.2 ∧ frM h f u.2 ∧ kpM h f u.2) (fun (u : mS) t => mW G u.2 t) (mA G)) ([.ref (h 0), .int j, .int q] : List Value).toArray s 0 0 (mA G)) (F0 m 13 ls []) := by
    intro N_13
    induction N_13 with
    | zero => intro k3 fL h0_ h1_ hI hfr hkp hN; omega
    | succ N_13 ih_13 =>
      intro k3 fL h0_ h1_ hI hfr hkp hN_13 H locs ls hH hl
      refine lv_iload_n hx hb dX6_newRow_13 rfl (lv_at hl 3 rfl) ?_
      refine lv_bipush (v := 8) hx hb dX6_newRow_14 (by decide) ?_
      refine lv_icmp_ge (tgt := 41) hx hb dX6_newRow_16 (by decide) (fun c_6 => ?_) (fun c_6 => ?_)
      · skip
        have ic_6 : (8 : Int) ≤ k3.toInt := ic_le kI_8 rfl c_6
        exact m_vret hx hb hr hlk hC hH (fun _ => (0, 0)) ⟨hI, hfr, hkp⟩ (Nat.le_of_ble_eq_true rfl) (Nat.le_of_ble_eq_true rfl) dX6_newRow_41
      · skip
        have ic_6 : (8 : Int) > k3.toInt := ic_nle kI_8 rfl c_6
        refine lv_aload_n hx hb dX6_newRow_19 rfl (lv_at hl 0 rfl) ?_
        obtain ⟨he_7, fe_7, ca_7, ga_7, wh_7, tm_7, wm_7, ac_7, th_7, st_7, F_7, b1_7, b2_7, b3_7, b4_7, b5_7, b6_7, b7_7, b8_7⟩ : okM0 h n (fL (h 0)) := hI.1 0 (by decide)
        refine m_get (ci := 6) (v := .ref (h 5)) (C := RX6) (T := TX6) (N := 30) hx hb hC hH hts in_X6_newRow_X6 hown F_7 rfl 5 (by decide) (hts (.fieldLink RX6 21 "LazyStateModel" "items" "[I") (by decide +kernel)) rfl dX6_newRow_20 ?_
        refine lv_bipush (v := 8) hx hb dX6_newRow_23 (by decide) ?_
        refine lv_sipush (v := 7872) hx hb dX6_newRow_25 (by decide) ?_
        refine lv_iload_n hx hb dX6_newRow_28 rfl (lv_at hl 1 rfl) ?_
        refine lv_iadd hx hb dX6_newRow_29 ?_
        refine lv_topi (fun x_8 ex_8 => ?_)
        have ix_8 : x_8.toInt = 7872 + j.toInt := ic_add ex_8 kI_7872 rfl (by omega) (by omega)
        refine lv_imul hx hb dX6_newRow_30 ?_
        refine lv_topi (fun x_9 ex_9 => ?_)
        have ix_9 : x_9.toInt = 8 * x_8.toInt := ic_mul ex_9 kI_8 rfl (by omega) (by omega)
        refine lv_iload_n hx hb dX6_newRow_31 rfl (lv_at hl 3 rfl) ?_
        refine lv_iadd hx hb dX6_newRow_32 ?_
        refine lv_topi (fun x_10 ex_10 => ?_)
        have ix_10 : x_10.toInt = x_9.toInt + k3.toInt := ic_add ex_10 rfl rfl (by omega) (by omega)
        refine lv_iconst (v := 0) hx hb dX6_newRow_33 (by decide) ?_
        obtain ⟨g_11, hg_11, hp_11⟩ : okI G 0 64512 (fun _ => True) (fL (h 5)) := hI.1 5 (by decide)
        refine m_iast hx hb hC hH hg_11 (vp_in_iff.mpr ⟨by omega, by omega⟩) dX6_newRow_34 (fun H locs hH => ?_)
        obtain ⟨f_12, ef_12⟩ : ∃ zz_ : mF, zz_ = va_up fL (h 5) (some (.inl (gk G 0, 64512, .inl (upd g_11 x_10.toNatClampNeg 0)))) := ⟨_, rfl⟩
        rw [← ef_12] at hH
        have F_13 := upk F_7 ef_12 (neM hj (by decide) (by decide) (by decide))
        have hI : IM G h n T z A f_12 := hI.arr 5 (by decide) (by decide) (by decide) (by decide) (show okI G 0 64512 (fun _ => True) _ from ⟨_, rfl, trivial⟩) ef_12
        have hfr := hfr.up 5 (by decide) ef_12
        have hkp := hkp.up 5 hj (by decide) (by decide) ef_12
        obtain ⟨x_14, ex_14⟩ : ∃ y : Int32, y = k3 + 1 := ⟨_, rfl⟩
        have ix_14 : x_14.toInt = k3.toInt + 1 := ic_add ex_14 rfl kI_1 (by omega) (by omega)
        refine lv_iinc (v := x_14) (lv' := [(3, .int x_14), (0, .ref (h 0)), (1, .int j), (2, .int q)]) hx hb dX6_newRow_35 hl (k := 3) rfl (by rw [ex_14]; rfl) (by decide) rfl (fun ls hl => ?_)
        refine lv_goto (tgt := 13) hx hb dX6_newRow_38 (by decide) ?_
        exact ih_13 x_14 f_12 (by omega) (by omega) hI hfr hkp (by omega) _ _ _ hH (lv_sub hl [1, 2, 3, 0] rfl)
  exact loop_13 (((8 : Int) - 0).toNat + 1) 0 f_4 (by have := kI_0; omega) (by have := kI_0; omega) hI hfr hkp (by have := kI_0; omega) _ _ _ hH (lv_sub hl [1, 2, 3, 0] rfl)
set_option maxHeartbeats 4000000 in
set_option maxRecDepth 100000 in
theorem c_X6_row (l : Launch) (G : mG) (h : Nat → Nat) (n : Nat) (T : Nat → Int32) (z : Nat → Nat) (A : Nat → tA) (f : mF) (hI : IM G h n T z A f) (o j q : Int32) : Met l yX6_row wsX6_row ({ frames := 4, cells := 0, slots := 0, locals := 91 }) (va_Pc [.ref (h 0), .int o, .int j, .int q] (mW G f)) (va_Qi (fun (r : Int32) (u : mS) => IM G h n T z A u.2 ∧ frM h f u.2) (fun (u : mS) t => mW G u.2 t) (mA G)) 0 0 (mA G) := by
  refine mMet [.ref (h 0), .int o, .int j, .int q] (cc := cX6_row) (maxL := 4) (ret := (some .int)) (by decide) rfl (Nat.le_of_ble_eq_true rfl) ?_
  intro p e s m below meth c ls hx hb hr hml hts hown hlk hnm hC hH hl
  have hl : lv_has ls 4 [(0, .ref (h 0)), (1, .int o), (2, .int j), (3, .int q)] := hl
  have hj := hI.2.2.1
  have hn24 := hI.2.2.2.1
  have nIn : (nI n).toInt = (n : Int) := nI_toInt (by omega)
  have hfr : frM h f f := frM.rf
  have hkp : kpM h f f := kpM.rf
  refine lv_aload_n hx hb dX6_row_0 rfl (lv_at hl 0 rfl) ?_
  refine lv_iload_n hx hb dX6_row_1 rfl (lv_at hl 1 rfl) ?_
  refine lv_iload_n hx hb dX6_row_2 rfl (lv_at hl 2 rfl) ?_
  refine lv_iconst (v := 2) hx hb dX6_row_3 (by decide) ?_
  obtain ⟨he_4, fe_4, ca_4, ga_4, wh_4, tm_4, wm_4, ac_4, th_4, st_4, F_4, b1_4, b2_4, b3_4, b4_4, b5_4, b6_4, b7_4, b8_4⟩ : okM0 h n (f (h 0)) := hI.1 0 (by decide)
  refine m_goi hH (va_runV (As := [.int o, .int j, .int 2]) (rest := []) ⟨hx, hb, hml, hown, hts⟩ (c_X6_has l G h n T z A f hI o j 2) (cwV 3 hts gX6_row_X6_has rfl rfl rfl (by decide +kernel) ⟨Nat.le_of_ble_eq_true rfl, Nat.le_of_ble_eq_true rfl⟩) (m_preV (ci := 6) hC hH F_4 rfl) rfl rfl hl.1 rfl (lv_room (Nat.le_of_ble_eq_true rfl)) dX6_row_4 ⟨Nat.le_of_ble_eq_true rfl, Nat.le_of_ble_eq_true rfl⟩) (fun r_1 rho_3 f_2 H locs hw hH => ?_)
  obtain ⟨hu, hr_1⟩ := hw
  have hu : f_2 = f := hu
  rw [hu] at hH
  refine lv_if_eq (tgt := 28) hx hb dX6_row_7 (by decide) (fun c_5 => ?_) (fun c_5 => ?_)
  · skip
    have ic_5 : (r_1.toInt : Int) = 0 := ic_eq rfl kI_0 c_5
    refine lv_iconst (v := (-1)) hx hb dX6_row_28 (by decide) ?_
    exact m_iret (v := (-1)) hx hb hr hlk hC hH (fun _ => (0, 0)) ⟨hI, hfr⟩ (Nat.le_of_ble_eq_true rfl) (Nat.le_of_ble_eq_true rfl) dX6_row_29
  · skip
    have ic_5 : (r_1.toInt : Int) ≠ 0 := ic_ne rfl kI_0 c_5
    have hr_1 := hr_1.resolve_right (by omega)
    obtain ⟨-, a1_, a2_, a3_, a4_, a5_⟩ := hr_1
    have fb_ := fldM_b (T o.toNatClampNeg).toInt
    refine lv_iload_n hx hb dX6_row_10 rfl (lv_at hl 3 rfl) ?_
    refine lv_bipush (v := (-3)) hx hb dX6_row_11 (by decide) ?_
    refine lv_icmp_eq (tgt := 30) hx hb dX6_row_13 (by decide) (fun c_6 => ?_) (fun c_6 => ?_)
    · skip
      have ic_6 : (q.toInt : Int) = (-3) := ic_eq rfl kI_m3 c_6
      refine lv_aload_n hx hb dX6_row_30 rfl (lv_at hl 0 rfl) ?_
      refine lv_aload_n hx hb dX6_row_31 rfl (lv_at hl 0 rfl) ?_
      refine m_get (ci := 6) (v := .int he_4) (C := RX6) (T := TX6) (N := 30) hx hb hC hH hts in_X6_row_X6 hown F_4 rfl 2 (by decide) (hts (.fieldLink RX6 104 "LazyStateModel" "height" "I") (by decide +kernel)) rfl dX6_row_32 ?_
      refine lv_bipush (v := 41) hx hb dX6_row_35 (by decide) ?_
      refine m_gov hH (va_runV (As := [.int he_4, .int 41]) (rest := []) ⟨hx, hb, hml, hown, hts⟩ (c_X6_copyAll l G h n T z A f hI he_4 41 (by have := kI_41; omega) (by have := kI_41; omega)) (cwV 2 hts gX6_row_X6_copyAll rfl rfl rfl (by decide +kernel) ⟨Nat.le_of_ble_eq_true rfl, Nat.le_of_ble_eq_true rfl⟩) (m_preV (ci := 6) hC hH F_4 rfl) rfl rfl hl.1 rfl (lv_room (Nat.le_of_ble_eq_true rfl)) dX6_row_37 ⟨Nat.le_of_ble_eq_true rfl, Nat.le_of_ble_eq_true rfl⟩) (fun rho_9 f_8 H locs hw hH => ?_)
      obtain ⟨hI, hfr1, hkp1⟩ := hw
      have hI : IM G h n T z A f_8 := hI
      have hfr1 : frM h f f_8 := hfr1
      have hkp1 : kpM h f f_8 := hkp1
      have hfr := hfr.trans hfr1
      have hkp := hkp.trans hkp1
      obtain ⟨he_10, fe_10, ca_10, ga_10, wh_10, tm_10, wm_10, ac_10, th_10, st_10, F_10, b1_10, b2_10, b3_10, b4_10, b5_10, b6_10, b7_10, b8_10⟩ : okM0 h n (f_8 (h 0)) := hI.1 0 (by decide)
      have kk_wm_10 : wm_10.toInt = wm_4.toInt := (congrArg Int32.toInt (show wm_10 = wm_4 from Value.int.inj (by have q := hkp1.1; rw [fldV_eq F_10, fldV_eq F_4] at q; exact q))).trans rfl
      have kk_ac_10 : ac_10.toInt = ac_4.toInt := (congrArg Int32.toInt (show ac_10 = ac_4 from Value.int.inj (by have q := hkp1.2.1; rw [fldV_eq F_10, fldV_eq F_4] at q; exact q))).trans rfl
      have kk_he_10 : he_10.toInt = he_4.toInt := (congrArg Int32.toInt (show he_10 = he_4 from Value.int.inj (by have q := hkp1.2.2; rw [fldV_eq F_10, fldV_eq F_4] at q; exact q))).trans rfl
      refine lv_aload_n hx hb dX6_row_40 rfl (lv_at hl 0 rfl) ?_
      refine lv_bipush (v := 8) hx hb dX6_row_41 (by decide) ?_
      refine lv_iload_n hx hb dX6_row_43 rfl (lv_at hl 1 rfl) ?_
      refine lv_imul hx hb dX6_row_44 ?_
      refine lv_topi (fun x_11 ex_11 => ?_)
      have ix_11 : x_11.toInt = 8 * o.toInt := ic_mul ex_11 kI_8 rfl (by omega) (by omega)
      refine lv_iload_n hx hb dX6_row_45 rfl (lv_at hl 2 rfl) ?_
      refine lv_iadd hx hb dX6_row_46 ?_
      refine lv_topi (fun x_12 ex_12 => ?_)
      have ix_12 : x_12.toInt = x_11.toInt + j.toInt := ic_add ex_12 rfl rfl (by omega) (by omega)
      refine lv_iload_n hx hb dX6_row_47 rfl (lv_at hl 3 rfl) ?_
      refine m_gov hH (va_runV (As := [.int x_12, .int q]) (rest := []) ⟨hx, hb, hml, hown, hts⟩ (c_X6_newRow l G h n T z A f_8 hI x_12 q (by omega) (by omega)) (cwV 2 hts gX6_row_X6_newRow rfl rfl rfl (by decide +kernel) ⟨Nat.le_of_ble_eq_true rfl, Nat.le_of_ble_eq_true rfl⟩) (m_preV (ci := 6) hC hH F_10 rfl) rfl rfl hl.1 rfl (lv_room (Nat.le_of_ble_eq_true rfl)) dX6_row_48 ⟨Nat.le_of_ble_eq_true rfl, Nat.le_of_ble_eq_true rfl⟩) (fun rho_15 f_14 H locs hw hH => ?_)
      obtain ⟨hI, hfr1, hkp1⟩ := hw
      have hI : IM G h n T z A f_14 := hI
      have hfr1 : frM h f_8 f_14 := hfr1
      have hkp1 : kpM h f_8 f_14 := hkp1
      have hfr := hfr.trans hfr1
      have hkp := hkp.trans hkp1
      obtain ⟨he_16, fe_16, ca_16, ga_16, wh_16, tm_16, wm_16, ac_16, th_16, st_16, F_16, b1_16, b2_16, b3_16, b4_16, b5_16, b6_16, b7_16, b8_16⟩ : okM0 h n (f_14 (h 0)) := hI.1 0 (by decide)
      have kk_wm_16 : wm_16.toInt = wm_10.toInt := (congrArg Int32.toInt (show wm_16 = wm_10 from Value.int.inj (by have q := hkp1.1; rw [fldV_eq F_16, fldV_eq F_10] at q; exact q))).trans rfl
      have kk_ac_16 : ac_16.toInt = ac_10.toInt := (congrArg Int32.toInt (show ac_16 = ac_10 from Value.int.inj (by have q := hkp1.2.1; rw [fldV_eq F_16, fldV_eq F_10] at q; exact q))).trans rfl
      have kk_he_16 : he_16.toInt = he_10.toInt := (congrArg Int32.toInt (show he_16 = he_10 from Value.int.inj (by have q := hkp1.2.2; rw [fldV_eq F_16, fldV_eq F_10] at q; exact q))).trans rfl
      refine lv_aload_n hx hb dX6_row_51 rfl (lv_at hl 0 rfl) ?_
      refine lv_bipush (v := 8) hx hb dX6_row_52 (by decide) ?_
      refine lv_iload_n hx hb dX6_row_54 rfl (lv_at hl 1 rfl) ?_
      refine lv_imul hx hb dX6_row_55 ?_
      refine lv_topi (fun x_17 ex_17 => ?_)
      have ix_17 : x_17.toInt = 8 * o.toInt := ic_mul ex_17 kI_8 rfl (by omega) (by omega)
      refine lv_iload_n hx hb dX6_row_56 rfl (lv_at hl 2 rfl) ?_
      refine lv_iadd hx hb dX6_row_57 ?_
      refine lv_topi (fun x_18 ex_18 => ?_)
      have ix_18 : x_18.toInt = x_17.toInt + j.toInt := ic_add ex_18 rfl rfl (by omega) (by omega)
      refine m_goi hH (va_runV (As := [.int x_18]) (rest := []) ⟨hx, hb, hml, hown, hts⟩ (c_X6_changed l G h n T z A f_14 hI x_18 (by omega)) (cwV 1 hts gX6_row_X6_changed rfl rfl rfl (by decide +kernel) ⟨Nat.le_of_ble_eq_true rfl, Nat.le_of_ble_eq_true rfl⟩) (m_preV (ci := 6) hC hH F_16 rfl) rfl rfl hl.1 rfl (lv_room (Nat.le_of_ble_eq_true rfl)) dX6_row_58 ⟨Nat.le_of_ble_eq_true rfl, Nat.le_of_ble_eq_true rfl⟩) (fun r_19 rho_21 f_20 H locs hw hH => ?_)
      obtain ⟨hI, hfr1⟩ := hw
      have hI : IM G h n T z A f_20 := hI
      have hfr1 : frM h f_14 f_20 := hfr1
      have hfr := hfr.trans hfr1
      have hkp : kpM h f_20 f_20 := kpM.rf
      exact m_iret (v := r_19) hx hb hr hlk hC hH (fun _ => (0, 0)) ⟨hI, hfr⟩ (Nat.le_of_ble_eq_true rfl) (Nat.le_of_ble_eq_true rfl) dX6_row_61
    · skip
      have ic_6 : (q.toInt : Int) ≠ (-3) := ic_ne rfl kI_m3 c_6
      refine lv_iload_n hx hb dX6_row_16 rfl (lv_at hl 3 rfl) ?_
      refine lv_i2l hx hb dX6_row_17 rfl ?_
      refine lv_topl (fun y_22 ey_22 => ?_)
      have iy_22 : y_22.toInt = q.toInt := lc_i2l ey_22 rfl
      have gy_22 := ic_rng q
      refine lv_lconst (v := 0) hx hb dX6_row_18 (by decide) ?_
      refine lv_ldc2 (v := 8) hx hb hown (hts (.constantLong RX6 125 (8)) (by decide +kernel)) dX6_row_19 ?_
      refine m_goi hH (va_runS (As := [.long y_22, .long 0, .long 8]) (rest := []) ⟨hx, hb, hml, hown, hts⟩ (c_X6_in l G f y_22 0 8) (va_cwS 3 hts gX6_row_X6_in rfl rfl rfl (by decide +kernel) ⟨Nat.le_of_ble_eq_true rfl, Nat.le_of_ble_eq_true rfl⟩) (m_preS hC hH) rfl rfl hl.1 rfl (lv_room (Nat.le_of_ble_eq_true rfl)) dX6_row_22 ⟨Nat.le_of_ble_eq_true rfl, Nat.le_of_ble_eq_true rfl⟩) (fun r_23 rho_25 f_24 H locs hw hH => ?_)
      obtain ⟨hu, hr_23⟩ := hw
      have hu : f_24 = f := hu
      rw [hu] at hH
      have hr_23 : (r_23.toInt = 1 ∧ 0 ≤ y_22.toInt ∧ y_22.toInt ≤ 8) ∨ (r_23.toInt = 0 ∧ (y_22.toInt < 0 ∨ 8 < y_22.toInt)) := by have q0 := (rfl : y_22.toInt = _); have q1 := kJ_0; have q2 := kJ_8; omega
      refine lv_if_ne (tgt := 30) hx hb dX6_row_25 (by decide) (fun c_26 => ?_) (fun c_26 => ?_)
      · skip
        have ic_26 : (r_23.toInt : Int) ≠ 0 := ic_ne rfl kI_0 c_26
        refine lv_aload_n hx hb dX6_row_30 rfl (lv_at hl 0 rfl) ?_
        refine lv_aload_n hx hb dX6_row_31 rfl (lv_at hl 0 rfl) ?_
        refine m_get (ci := 6) (v := .int he_4) (C := RX6) (T := TX6) (N := 30) hx hb hC hH hts in_X6_row_X6 hown F_4 rfl 2 (by decide) (hts (.fieldLink RX6 104 "LazyStateModel" "height" "I") (by decide +kernel)) rfl dX6_row_32 ?_
        refine lv_bipush (v := 41) hx hb dX6_row_35 (by decide) ?_
        refine m_gov hH (va_runV (As := [.int he_4, .int 41]) (rest := []) ⟨hx, hb, hml, hown, hts⟩ (c_X6_copyAll l G h n T z A f hI he_4 41 (by have := kI_41; omega) (by have := kI_41; omega)) (cwV 2 hts gX6_row_X6_copyAll rfl rfl rfl (by decide +kernel) ⟨Nat.le_of_ble_eq_true rfl, Nat.le_of_ble_eq_true rfl⟩) (m_preV (ci := 6) hC hH F_4 rfl) rfl rfl hl.1 rfl (lv_room (Nat.le_of_ble_eq_true rfl)) dX6_row_37 ⟨Nat.le_of_ble_eq_true rfl, Nat.le_of_ble_eq_true rfl⟩) (fun rho_29 f_28 H locs hw hH => ?_)
        obtain ⟨hI, hfr1, hkp1⟩ := hw
        have hI : IM G h n T z A f_28 := hI
        have hfr1 : frM h f f_28 := hfr1
        have hkp1 : kpM h f f_28 := hkp1
        have hfr := hfr.trans hfr1
        have hkp := hkp.trans hkp1
        obtain ⟨he_30, fe_30, ca_30, ga_30, wh_30, tm_30, wm_30, ac_30, th_30, st_30, F_30, b1_30, b2_30, b3_30, b4_30, b5_30, b6_30, b7_30, b8_30⟩ : okM0 h n (f_28 (h 0)) := hI.1 0 (by decide)
        have kk_wm_30 : wm_30.toInt = wm_4.toInt := (congrArg Int32.toInt (show wm_30 = wm_4 from Value.int.inj (by have q := hkp1.1; rw [fldV_eq F_30, fldV_eq F_4] at q; exact q))).trans rfl
        have kk_ac_30 : ac_30.toInt = ac_4.toInt := (congrArg Int32.toInt (show ac_30 = ac_4 from Value.int.inj (by have q := hkp1.2.1; rw [fldV_eq F_30, fldV_eq F_4] at q; exact q))).trans rfl
        have kk_he_30 : he_30.toInt = he_4.toInt := (congrArg Int32.toInt (show he_30 = he_4 from Value.int.inj (by have q := hkp1.2.2; rw [fldV_eq F_30, fldV_eq F_4] at q; exact q))).trans rfl
        refine lv_aload_n hx hb dX6_row_40 rfl (lv_at hl 0 rfl) ?_
        refine lv_bipush (v := 8) hx hb dX6_row_41 (by decide) ?_
        refine lv_iload_n hx hb dX6_row_43 rfl (lv_at hl 1 rfl) ?_
        refine lv_imul hx hb dX6_row_44 ?_
        refine lv_topi (fun x_31 ex_31 => ?_)
        have ix_31 : x_31.toInt = 8 * o.toInt := ic_mul ex_31 kI_8 rfl (by omega) (by omega)
        refine lv_iload_n hx hb dX6_row_45 rfl (lv_at hl 2 rfl) ?_
        refine lv_iadd hx hb dX6_row_46 ?_
        refine lv_topi (fun x_32 ex_32 => ?_)
        have ix_32 : x_32.toInt = x_31.toInt + j.toInt := ic_add ex_32 rfl rfl (by omega) (by omega)
        refine lv_iload_n hx hb dX6_row_47 rfl (lv_at hl 3 rfl) ?_
        refine m_gov hH (va_runV (As := [.int x_32, .int q]) (rest := []) ⟨hx, hb, hml, hown, hts⟩ (c_X6_newRow l G h n T z A f_28 hI x_32 q (by omega) (by omega)) (cwV 2 hts gX6_row_X6_newRow rfl rfl rfl (by decide +kernel) ⟨Nat.le_of_ble_eq_true rfl, Nat.le_of_ble_eq_true rfl⟩) (m_preV (ci := 6) hC hH F_30 rfl) rfl rfl hl.1 rfl (lv_room (Nat.le_of_ble_eq_true rfl)) dX6_row_48 ⟨Nat.le_of_ble_eq_true rfl, Nat.le_of_ble_eq_true rfl⟩) (fun rho_35 f_34 H locs hw hH => ?_)
        obtain ⟨hI, hfr1, hkp1⟩ := hw
        have hI : IM G h n T z A f_34 := hI
        have hfr1 : frM h f_28 f_34 := hfr1
        have hkp1 : kpM h f_28 f_34 := hkp1
        have hfr := hfr.trans hfr1
        have hkp := hkp.trans hkp1
        obtain ⟨he_36, fe_36, ca_36, ga_36, wh_36, tm_36, wm_36, ac_36, th_36, st_36, F_36, b1_36, b2_36, b3_36, b4_36, b5_36, b6_36, b7_36, b8_36⟩ : okM0 h n (f_34 (h 0)) := hI.1 0 (by decide)
        have kk_wm_36 : wm_36.toInt = wm_30.toInt := (congrArg Int32.toInt (show wm_36 = wm_30 from Value.int.inj (by have q := hkp1.1; rw [fldV_eq F_36, fldV_eq F_30] at q; exact q))).trans rfl
        have kk_ac_36 : ac_36.toInt = ac_30.toInt := (congrArg Int32.toInt (show ac_36 = ac_30 from Value.int.inj (by have q := hkp1.2.1; rw [fldV_eq F_36, fldV_eq F_30] at q; exact q))).trans rfl
        have kk_he_36 : he_36.toInt = he_30.toInt := (congrArg Int32.toInt (show he_36 = he_30 from Value.int.inj (by have q := hkp1.2.2; rw [fldV_eq F_36, fldV_eq F_30] at q; exact q))).trans rfl
        refine lv_aload_n hx hb dX6_row_51 rfl (lv_at hl 0 rfl) ?_
        refine lv_bipush (v := 8) hx hb dX6_row_52 (by decide) ?_
        refine lv_iload_n hx hb dX6_row_54 rfl (lv_at hl 1 rfl) ?_
        refine lv_imul hx hb dX6_row_55 ?_
        refine lv_topi (fun x_37 ex_37 => ?_)
        have ix_37 : x_37.toInt = 8 * o.toInt := ic_mul ex_37 kI_8 rfl (by omega) (by omega)
        refine lv_iload_n hx hb dX6_row_56 rfl (lv_at hl 2 rfl) ?_
        refine lv_iadd hx hb dX6_row_57 ?_
        refine lv_topi (fun x_38 ex_38 => ?_)
        have ix_38 : x_38.toInt = x_37.toInt + j.toInt := ic_add ex_38 rfl rfl (by omega) (by omega)
        refine m_goi hH (va_runV (As := [.int x_38]) (rest := []) ⟨hx, hb, hml, hown, hts⟩ (c_X6_changed l G h n T z A f_34 hI x_38 (by omega)) (cwV 1 hts gX6_row_X6_changed rfl rfl rfl (by decide +kernel) ⟨Nat.le_of_ble_eq_true rfl, Nat.le_of_ble_eq_true rfl⟩) (m_preV (ci := 6) hC hH F_36 rfl) rfl rfl hl.1 rfl (lv_room (Nat.le_of_ble_eq_true rfl)) dX6_row_58 ⟨Nat.le_of_ble_eq_true rfl, Nat.le_of_ble_eq_true rfl⟩) (fun r_39 rho_41 f_40 H locs hw hH => ?_)
        obtain ⟨hI, hfr1⟩ := hw
        have hI : IM G h n T z A f_40 := hI
        have hfr1 : frM h f_34 f_40 := hfr1
        have hfr := hfr.trans hfr1
        have hkp : kpM h f_40 f_40 := kpM.rf
        exact m_iret (v := r_39) hx hb hr hlk hC hH (fun _ => (0, 0)) ⟨hI, hfr⟩ (Nat.le_of_ble_eq_true rfl) (Nat.le_of_ble_eq_true rfl) dX6_row_61
      · skip
        have ic_26 : (r_23.toInt : Int) = 0 := ic_eq rfl kI_0 c_26
        refine lv_iconst (v := (-1)) hx hb dX6_row_28 (by decide) ?_
        exact m_iret (v := (-1)) hx hb hr hlk hC hH (fun _ => (0, 0)) ⟨hI, hfr⟩ (Nat.le_of_ble_eq_true rfl) (Nat.le_of_ble_eq_true rfl) dX6_row_29
