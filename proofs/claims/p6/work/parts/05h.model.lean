set_option maxHeartbeats 4000000 in
set_option maxRecDepth 100000 in
theorem c_X6_gave (l : Launch) (G : mG) (h : Nat → Nat) (n : Nat) (T : Nat → Int32) (z : Nat → Nat) (A : Nat → tA) (f : mF) (hI : IM G h n T z A f) : Met l yX6_gave wsX6_gave ({ frames := 0, cells := 0, slots := 0, locals := 0 }) (va_Pc [.ref (h 0)] (mW G f)) (va_Ql (fun (r : Int64) (u : mS) => u.2 = f) (fun (u : mS) t => mW G u.2 t) (mA G)) 0 0 (mA G) := by
  refine mMet [.ref (h 0)] (cc := cX6_gave) (maxL := 1) (ret := (some .long)) (by decide) rfl (Nat.le_of_ble_eq_true rfl) ?_
  intro p e s m below meth c ls hx hb hr hml hts hown hlk hnm hC hH hl
  have hl : lv_has ls 1 [(0, .ref (h 0))] := hl
  have hj := hI.2.2.1
  have hn24 := hI.2.2.2.1
  have nIn : (nI n).toInt = (n : Int) := nI_toInt (by omega)
  have hfr : frM h f f := frM.rf
  have hkp : kpM h f f := kpM.rf
  refine lv_aload_n hx hb dX6_gave_0 rfl (lv_at hl 0 rfl) ?_
  obtain ⟨he_1, fe_1, ca_1, ga_1, wh_1, tm_1, wm_1, ac_1, th_1, st_1, F_1, b1_1, b2_1, b3_1, b4_1, b5_1, b6_1, b7_1, b8_1⟩ : okM0 h n (f (h 0)) := hI.1 0 (by decide)
  refine m_get (ci := 6) (v := .long ga_1) (C := RX6) (T := TX6) (N := 30) hx hb hC hH hts in_X6_gave_X6 hown F_1 rfl 17 (by decide) (hts (.fieldLink RX6 186 "LazyStateModel" "gave" "J") (by decide +kernel)) rfl dX6_gave_1 ?_
  exact m_lret (v := ga_1) hx hb hr hlk hC hH (fun _ => (0, 0)) rfl (Nat.le_of_ble_eq_true rfl) (Nat.le_of_ble_eq_true rfl) dX6_gave_4
set_option maxHeartbeats 4000000 in
set_option maxRecDepth 100000 in
theorem c_X6_where (l : Launch) (G : mG) (h : Nat → Nat) (n : Nat) (T : Nat → Int32) (z : Nat → Nat) (A : Nat → tA) (f : mF) (hI : IM G h n T z A f) : Met l yX6_where wsX6_where ({ frames := 0, cells := 0, slots := 0, locals := 0 }) (va_Pc [.ref (h 0)] (mW G f)) (va_Qi (fun (r : Int32) (u : mS) => u.2 = f) (fun (u : mS) t => mW G u.2 t) (mA G)) 0 0 (mA G) := by
  refine mMet [.ref (h 0)] (cc := cX6_where) (maxL := 1) (ret := (some .int)) (by decide) rfl (Nat.le_of_ble_eq_true rfl) ?_
  intro p e s m below meth c ls hx hb hr hml hts hown hlk hnm hC hH hl
  have hl : lv_has ls 1 [(0, .ref (h 0))] := hl
  have hj := hI.2.2.1
  have hn24 := hI.2.2.2.1
  have nIn : (nI n).toInt = (n : Int) := nI_toInt (by omega)
  have hfr : frM h f f := frM.rf
  have hkp : kpM h f f := kpM.rf
  refine lv_aload_n hx hb dX6_where_0 rfl (lv_at hl 0 rfl) ?_
  obtain ⟨he_1, fe_1, ca_1, ga_1, wh_1, tm_1, wm_1, ac_1, th_1, st_1, F_1, b1_1, b2_1, b3_1, b4_1, b5_1, b6_1, b7_1, b8_1⟩ : okM0 h n (f (h 0)) := hI.1 0 (by decide)
  refine m_get (ci := 6) (v := .int wh_1) (C := RX6) (T := TX6) (N := 30) hx hb hC hH hts in_X6_where_X6 hown F_1 rfl 18 (by decide) (hts (.fieldLink RX6 52 "LazyStateModel" "where" "I") (by decide +kernel)) rfl dX6_where_1 ?_
  exact m_iret (v := wh_1) hx hb hr hlk hC hH (fun _ => (0, 0)) rfl (Nat.le_of_ble_eq_true rfl) (Nat.le_of_ble_eq_true rfl) dX6_where_4
set_option maxHeartbeats 4000000 in
set_option maxRecDepth 100000 in
theorem c_X6_status (l : Launch) (G : mG) (h : Nat → Nat) (n : Nat) (T : Nat → Int32) (z : Nat → Nat) (A : Nat → tA) (f : mF) (hI : IM G h n T z A f) : Met l yX6_status wsX6_status ({ frames := 0, cells := 0, slots := 0, locals := 0 }) (va_Pc [.ref (h 0)] (mW G f)) (va_Qi (fun (r : Int32) (u : mS) => u.2 = f) (fun (u : mS) t => mW G u.2 t) (mA G)) 0 0 (mA G) := by
  refine mMet [.ref (h 0)] (cc := cX6_status) (maxL := 1) (ret := (some .int)) (by decide) rfl (Nat.le_of_ble_eq_true rfl) ?_
  intro p e s m below meth c ls hx hb hr hml hts hown hlk hnm hC hH hl
  have hl : lv_has ls 1 [(0, .ref (h 0))] := hl
  have hj := hI.2.2.1
  have hn24 := hI.2.2.2.1
  have nIn : (nI n).toInt = (n : Int) := nI_toInt (by omega)
  have hfr : frM h f f := frM.rf
  have hkp : kpM h f f := kpM.rf
  refine lv_aload_n hx hb dX6_status_0 rfl (lv_at hl 0 rfl) ?_
  obtain ⟨he_1, fe_1, ca_1, ga_1, wh_1, tm_1, wm_1, ac_1, th_1, st_1, F_1, b1_1, b2_1, b3_1, b4_1, b5_1, b6_1, b7_1, b8_1⟩ : okM0 h n (f (h 0)) := hI.1 0 (by decide)
  refine m_get (ci := 6) (v := .int st_1) (C := RX6) (T := TX6) (N := 30) hx hb hC hH hts in_X6_status_X6 hown F_1 rfl 29 (by decide) (hts (.fieldLink RX6 214 "LazyStateModel" "status" "I") (by decide +kernel)) rfl dX6_status_1 ?_
  exact m_iret (v := st_1) hx hb hr hlk hC hH (fun _ => (0, 0)) rfl (Nat.le_of_ble_eq_true rfl) (Nat.le_of_ble_eq_true rfl) dX6_status_4
set_option maxHeartbeats 4000000 in
set_option maxRecDepth 100000 in
theorem c_X6_touched (l : Launch) (G : mG) (h : Nat → Nat) (n : Nat) (T : Nat → Int32) (z : Nat → Nat) (A : Nat → tA) (f : mF) (hI : IM G h n T z A f) (k w_ : Int32) : Met l yX6_touched wsX6_touched ({ frames := 1, cells := 0, slots := 0, locals := 25 }) (va_Pc [.ref (h 0), .int k, .int w_] (mW G f)) (va_Qi (fun (r : Int32) (u : mS) => u.2 = f) (fun (u : mS) t => mW G u.2 t) (mA G)) 0 0 (mA G) := by
  refine mMet [.ref (h 0), .int k, .int w_] (cc := cX6_touched) (maxL := 3) (ret := (some .int)) (by decide) rfl (Nat.le_of_ble_eq_true rfl) ?_
  intro p e s m below meth c ls hx hb hr hml hts hown hlk hnm hC hH hl
  have hl : lv_has ls 3 [(0, .ref (h 0)), (1, .int k), (2, .int w_)] := hl
  have hj := hI.2.2.1
  have hn24 := hI.2.2.2.1
  have nIn : (nI n).toInt = (n : Int) := nI_toInt (by omega)
  have hfr : frM h f f := frM.rf
  have hkp : kpM h f f := kpM.rf
  refine lv_iload_n hx hb dX6_touched_0 rfl (lv_at hl 1 rfl) ?_
  refine lv_if_lt (tgt := 14) hx hb dX6_touched_1 (by decide) (fun c_1 => ?_) (fun c_1 => ?_)
  · skip
    have ic_1 : (k.toInt : Int) < 0 := ic_lt rfl kI_0 c_1
    refine lv_iconst (v := (-1)) hx hb dX6_touched_14 (by decide) ?_
    exact m_iret (v := (-1)) hx hb hr hlk hC hH (fun _ => (0, 0)) rfl (Nat.le_of_ble_eq_true rfl) (Nat.le_of_ble_eq_true rfl) dX6_touched_15
  · skip
    have ic_1 : (k.toInt : Int) ≥ 0 := ic_nlt rfl kI_0 c_1
    refine lv_iload_n hx hb dX6_touched_4 rfl (lv_at hl 2 rfl) ?_
    refine lv_i2l hx hb dX6_touched_5 rfl ?_
    refine lv_topl (fun y_2 ey_2 => ?_)
    have iy_2 : y_2.toInt = w_.toInt := lc_i2l ey_2 rfl
    have gy_2 := ic_rng w_
    refine lv_lconst (v := 0) hx hb dX6_touched_6 (by decide) ?_
    refine lv_lconst (v := 1) hx hb dX6_touched_7 (by decide) ?_
    refine m_goi hH (va_runS (As := [.long y_2, .long 0, .long 1]) (rest := []) ⟨hx, hb, hml, hown, hts⟩ (c_X6_in l G f y_2 0 1) (va_cwS 3 hts gX6_touched_X6_in rfl rfl rfl (by decide +kernel) ⟨Nat.le_of_ble_eq_true rfl, Nat.le_of_ble_eq_true rfl⟩) (m_preS hC hH) rfl rfl hl.1 rfl (lv_room (Nat.le_of_ble_eq_true rfl)) dX6_touched_8 ⟨Nat.le_of_ble_eq_true rfl, Nat.le_of_ble_eq_true rfl⟩) (fun r_3 rho_5 f_4 H locs hw hH => ?_)
    obtain ⟨hu, hr_3⟩ := hw
    have hu : f_4 = f := hu
    rw [hu] at hH
    have hr_3 : (r_3.toInt = 1 ∧ 0 ≤ y_2.toInt ∧ y_2.toInt ≤ 1) ∨ (r_3.toInt = 0 ∧ (y_2.toInt < 0 ∨ 1 < y_2.toInt)) := by have q0 := (rfl : y_2.toInt = _); have q1 := kJ_0; have q2 := kJ_1; omega
    refine lv_if_ne (tgt := 16) hx hb dX6_touched_11 (by decide) (fun c_6 => ?_) (fun c_6 => ?_)
    · skip
      have ic_6 : (r_3.toInt : Int) ≠ 0 := ic_ne rfl kI_0 c_6
      refine lv_iload_n hx hb dX6_touched_16 rfl (lv_at hl 1 rfl) ?_
      refine lv_aload_n hx hb dX6_touched_17 rfl (lv_at hl 0 rfl) ?_
      obtain ⟨he_7, fe_7, ca_7, ga_7, wh_7, tm_7, wm_7, ac_7, th_7, st_7, F_7, b1_7, b2_7, b3_7, b4_7, b5_7, b6_7, b7_7, b8_7⟩ : okM0 h n (f (h 0)) := hI.1 0 (by decide)
      refine m_get (ci := 6) (v := .int tm_7) (C := RX6) (T := TX6) (N := 30) hx hb hC hH hts in_X6_touched_X6 hown F_7 rfl 19 (by decide) (hts (.fieldLink RX6 152 "LazyStateModel" "touchedMany" "I") (by decide +kernel)) rfl dX6_touched_18 ?_
      refine lv_icmp_lt (tgt := 29) hx hb dX6_touched_21 (by decide) (fun c_8 => ?_) (fun c_8 => ?_)
      · skip
        have ic_8 : (k.toInt : Int) < tm_7.toInt := ic_lt rfl rfl c_8
        refine lv_iload_n hx hb dX6_touched_29 rfl (lv_at hl 2 rfl) ?_
        refine lv_if_ne (tgt := 42) hx hb dX6_touched_30 (by decide) (fun c_9 => ?_) (fun c_9 => ?_)
        · skip
          have ic_9 : (w_.toInt : Int) ≠ 0 := ic_ne rfl kI_0 c_9
          refine lv_aload_n hx hb dX6_touched_42 rfl (lv_at hl 0 rfl) ?_
          refine m_get (ci := 6) (v := .ref (h 21)) (C := RX6) (T := TX6) (N := 30) hx hb hC hH hts in_X6_touched_X6 hown F_7 rfl 21 (by decide) (hts (.fieldLink RX6 59 "LazyStateModel" "touchedHow" "[I") (by decide +kernel)) rfl dX6_touched_43 ?_
          refine lv_iload_n hx hb dX6_touched_46 rfl (lv_at hl 1 rfl) ?_
          obtain ⟨g_10, hg_10, hp_10⟩ : okI G 0 400 (fun _ => True) (f (h 21)) := hI.1 21 (by decide)
          refine m_iald hx hb hC hH hg_10 (vp_in_iff.mpr ⟨by omega, by omega⟩) dX6_touched_47 ?_
          refine lv_topi (fun x_11 ex_11 => ?_)
          exact m_iret (v := x_11) hx hb hr hlk hC hH (fun _ => (0, 0)) rfl (Nat.le_of_ble_eq_true rfl) (Nat.le_of_ble_eq_true rfl) dX6_touched_48
        · skip
          have ic_9 : (w_.toInt : Int) = 0 := ic_eq rfl kI_0 c_9
          refine lv_aload_n hx hb dX6_touched_33 rfl (lv_at hl 0 rfl) ?_
          refine m_get (ci := 6) (v := .ref (h 20)) (C := RX6) (T := TX6) (N := 30) hx hb hC hH hts in_X6_touched_X6 hown F_7 rfl 20 (by decide) (hts (.fieldLink RX6 56 "LazyStateModel" "touchedLeaf" "[I") (by decide +kernel)) rfl dX6_touched_34 ?_
          refine lv_iload_n hx hb dX6_touched_37 rfl (lv_at hl 1 rfl) ?_
          obtain ⟨g_12, hg_12, hp_12⟩ : okI G 0 400 (fun _ => True) (f (h 20)) := hI.1 20 (by decide)
          refine m_iald hx hb hC hH hg_12 (vp_in_iff.mpr ⟨by omega, by omega⟩) dX6_touched_38 ?_
          refine lv_topi (fun x_13 ex_13 => ?_)
          refine lv_goto (tgt := 48) hx hb dX6_touched_39 (by decide) ?_
          exact m_iret (v := x_13) hx hb hr hlk hC hH (fun _ => (0, 0)) rfl (Nat.le_of_ble_eq_true rfl) (Nat.le_of_ble_eq_true rfl) dX6_touched_48
      · skip
        have ic_8 : (k.toInt : Int) ≥ tm_7.toInt := ic_nlt rfl rfl c_8
        refine lv_bipush (v := (-3)) hx hb dX6_touched_24 (by decide) ?_
        refine lv_goto (tgt := 48) hx hb dX6_touched_26 (by decide) ?_
        exact m_iret (v := (-3)) hx hb hr hlk hC hH (fun _ => (0, 0)) rfl (Nat.le_of_ble_eq_true rfl) (Nat.le_of_ble_eq_true rfl) dX6_touched_48
    · skip
      have ic_6 : (r_3.toInt : Int) = 0 := ic_eq rfl kI_0 c_6
      refine lv_iconst (v := (-1)) hx hb dX6_touched_14 (by decide) ?_
      exact m_iret (v := (-1)) hx hb hr hlk hC hH (fun _ => (0, 0)) rfl (Nat.le_of_ble_eq_true rfl) (Nat.le_of_ble_eq_true rfl) dX6_touched_15
set_option maxHeartbeats 4000000 in
set_option maxRecDepth 100000 in
theorem c_X6_written (l : Launch) (G : mG) (h : Nat → Nat) (n : Nat) (T : Nat → Int32) (z : Nat → Nat) (A : Nat → tA) (f : mF) (hI : IM G h n T z A f) (k : Int32) : Met l yX6_written wsX6_written ({ frames := 0, cells := 0, slots := 0, locals := 0 }) (va_Pc [.ref (h 0), .int k] (mW G f)) (va_Qi (fun (r : Int32) (u : mS) => u.2 = f) (fun (u : mS) t => mW G u.2 t) (mA G)) 0 0 (mA G) := by
  refine mMet [.ref (h 0), .int k] (cc := cX6_written) (maxL := 2) (ret := (some .int)) (by decide) rfl (Nat.le_of_ble_eq_true rfl) ?_
  intro p e s m below meth c ls hx hb hr hml hts hown hlk hnm hC hH hl
  have hl : lv_has ls 2 [(0, .ref (h 0)), (1, .int k)] := hl
  have hj := hI.2.2.1
  have hn24 := hI.2.2.2.1
  have nIn : (nI n).toInt = (n : Int) := nI_toInt (by omega)
  have hfr : frM h f f := frM.rf
  have hkp : kpM h f f := kpM.rf
  refine lv_iload_n hx hb dX6_written_0 rfl (lv_at hl 1 rfl) ?_
  refine lv_if_ge (tgt := 8) hx hb dX6_written_1 (by decide) (fun c_1 => ?_) (fun c_1 => ?_)
  · skip
    have ic_1 : (0 : Int) ≤ k.toInt := ic_le kI_0 rfl c_1
    refine lv_iload_n hx hb dX6_written_8 rfl (lv_at hl 1 rfl) ?_
    refine lv_aload_n hx hb dX6_written_9 rfl (lv_at hl 0 rfl) ?_
    obtain ⟨he_2, fe_2, ca_2, ga_2, wh_2, tm_2, wm_2, ac_2, th_2, st_2, F_2, b1_2, b2_2, b3_2, b4_2, b5_2, b6_2, b7_2, b8_2⟩ : okM0 h n (f (h 0)) := hI.1 0 (by decide)
    refine m_get (ci := 6) (v := .int wm_2) (C := RX6) (T := TX6) (N := 30) hx hb hC hH hts in_X6_written_X6 hown F_2 rfl 22 (by decide) (hts (.fieldLink RX6 196 "LazyStateModel" "writtenMany" "I") (by decide +kernel)) rfl dX6_written_10 ?_
    refine lv_icmp_lt (tgt := 21) hx hb dX6_written_13 (by decide) (fun c_3 => ?_) (fun c_3 => ?_)
    · skip
      have ic_3 : (k.toInt : Int) < wm_2.toInt := ic_lt rfl rfl c_3
      refine lv_aload_n hx hb dX6_written_21 rfl (lv_at hl 0 rfl) ?_
      refine m_get (ci := 6) (v := .ref (h 23)) (C := RX6) (T := TX6) (N := 30) hx hb hC hH hts in_X6_written_X6 hown F_2 rfl 23 (by decide) (hts (.fieldLink RX6 62 "LazyStateModel" "written" "[I") (by decide +kernel)) rfl dX6_written_22 ?_
      refine lv_iload_n hx hb dX6_written_25 rfl (lv_at hl 1 rfl) ?_
      obtain ⟨g_4, hg_4, hp_4⟩ : okI G 0 192 (fun _ => True) (f (h 23)) := hI.1 23 (by decide)
      refine m_iald hx hb hC hH hg_4 (vp_in_iff.mpr ⟨by omega, by omega⟩) dX6_written_26 ?_
      refine lv_topi (fun x_5 ex_5 => ?_)
      exact m_iret (v := x_5) hx hb hr hlk hC hH (fun _ => (0, 0)) rfl (Nat.le_of_ble_eq_true rfl) (Nat.le_of_ble_eq_true rfl) dX6_written_27
    · skip
      have ic_3 : (k.toInt : Int) ≥ wm_2.toInt := ic_nlt rfl rfl c_3
      refine lv_bipush (v := (-3)) hx hb dX6_written_16 (by decide) ?_
      refine lv_goto (tgt := 27) hx hb dX6_written_18 (by decide) ?_
      exact m_iret (v := (-3)) hx hb hr hlk hC hH (fun _ => (0, 0)) rfl (Nat.le_of_ble_eq_true rfl) (Nat.le_of_ble_eq_true rfl) dX6_written_27
  · skip
    have ic_1 : (0 : Int) > k.toInt := ic_nle kI_0 rfl c_1
    refine lv_iconst (v := (-1)) hx hb dX6_written_4 (by decide) ?_
    refine lv_goto (tgt := 27) hx hb dX6_written_5 (by decide) ?_
    exact m_iret (v := (-1)) hx hb hr hlk hC hH (fun _ => (0, 0)) rfl (Nat.le_of_ble_eq_true rfl) (Nat.le_of_ble_eq_true rfl) dX6_written_27
set_option maxHeartbeats 4000000 in
set_option maxRecDepth 100000 in
theorem c_X6_loaded (l : Launch) (G : mG) (h : Nat → Nat) (n : Nat) (T : Nat → Int32) (z : Nat → Nat) (A : Nat → tA) (f : mF) (hI : IM G h n T z A f) (o : Int32) : Met l yX6_loaded wsX6_loaded ({ frames := 2, cells := 0, slots := 0, locals := 46 }) (va_Pc [.ref (h 0), .int o] (mW G f)) (va_Qi (fun (r : Int32) (u : mS) => u.2 = f) (fun (u : mS) t => mW G u.2 t) (mA G)) 0 0 (mA G) := by
  refine mMet [.ref (h 0), .int o] (cc := cX6_loaded) (maxL := 2) (ret := (some .int)) (by decide) rfl (Nat.le_of_ble_eq_true rfl) ?_
  intro p e s m below meth c ls hx hb hr hml hts hown hlk hnm hC hH hl
  have hl : lv_has ls 2 [(0, .ref (h 0)), (1, .int o)] := hl
  have hj := hI.2.2.1
  have hn24 := hI.2.2.2.1
  have nIn : (nI n).toInt = (n : Int) := nI_toInt (by omega)
  have hfr : frM h f f := frM.rf
  have hkp : kpM h f f := kpM.rf
  refine lv_aload_n hx hb dX6_loaded_0 rfl (lv_at hl 0 rfl) ?_
  refine lv_iload_n hx hb dX6_loaded_1 rfl (lv_at hl 1 rfl) ?_
  obtain ⟨he_4, fe_4, ca_4, ga_4, wh_4, tm_4, wm_4, ac_4, th_4, st_4, F_4, b1_4, b2_4, b3_4, b4_4, b5_4, b6_4, b7_4, b8_4⟩ : okM0 h n (f (h 0)) := hI.1 0 (by decide)
  refine m_goi hH (va_runV (As := [.int o]) (rest := []) ⟨hx, hb, hml, hown, hts⟩ (c_X6_isObject l G h n T z A f hI o) (cwV 1 hts gX6_loaded_X6_isObject rfl rfl rfl (by decide +kernel) ⟨Nat.le_of_ble_eq_true rfl, Nat.le_of_ble_eq_true rfl⟩) (m_preV (ci := 6) hC hH F_4 rfl) rfl rfl hl.1 rfl (lv_room (Nat.le_of_ble_eq_true rfl)) dX6_loaded_2 ⟨Nat.le_of_ble_eq_true rfl, Nat.le_of_ble_eq_true rfl⟩) (fun r_1 rho_3 f_2 H locs hw hH => ?_)
  obtain ⟨hu, hr_1⟩ := hw
  have hu : f_2 = f := hu
  rw [hu] at hH
  refine lv_if_ne (tgt := 12) hx hb dX6_loaded_5 (by decide) (fun c_5 => ?_) (fun c_5 => ?_)
  · skip
    have ic_5 : (r_1.toInt : Int) ≠ 0 := ic_ne rfl kI_0 c_5
    refine lv_aload_n hx hb dX6_loaded_12 rfl (lv_at hl 0 rfl) ?_
    refine m_get (ci := 6) (v := .ref (h 24)) (C := RX6) (T := TX6) (N := 30) hx hb hC hH hts in_X6_loaded_X6 hown F_4 rfl 24 (by decide) (hts (.fieldLink RX6 65 "LazyStateModel" "isLoaded" "[Z") (by decide +kernel)) rfl dX6_loaded_13 ?_
    refine lv_iload_n hx hb dX6_loaded_16 rfl (lv_at hl 1 rfl) ?_
    obtain ⟨g_6, hg_6, hp_6⟩ : okI G 2 24 (fun _ => True) (f (h 24)) := hI.1 24 (by decide)
    refine m_zald hx hb hC hH hg_6 (vp_in_iff.mpr ⟨by omega, by omega⟩) dX6_loaded_17 ?_
    refine lv_topi (fun x_7 ex_7 => ?_)
    refine lv_if_eq (tgt := 25) hx hb dX6_loaded_18 (by decide) (fun c_8 => ?_) (fun c_8 => ?_)
    · skip
      have ic_8 : (x_7.toInt : Int) = 0 := ic_eq rfl kI_0 c_8
      refine lv_iconst (v := 0) hx hb dX6_loaded_25 (by decide) ?_
      exact m_iret (v := 0) hx hb hr hlk hC hH (fun _ => (0, 0)) rfl (Nat.le_of_ble_eq_true rfl) (Nat.le_of_ble_eq_true rfl) dX6_loaded_26
    · skip
      have ic_8 : (x_7.toInt : Int) ≠ 0 := ic_ne rfl kI_0 c_8
      refine lv_iconst (v := 1) hx hb dX6_loaded_21 (by decide) ?_
      refine lv_goto (tgt := 26) hx hb dX6_loaded_22 (by decide) ?_
      exact m_iret (v := 1) hx hb hr hlk hC hH (fun _ => (0, 0)) rfl (Nat.le_of_ble_eq_true rfl) (Nat.le_of_ble_eq_true rfl) dX6_loaded_26
  · skip
    have ic_5 : (r_1.toInt : Int) = 0 := ic_eq rfl kI_0 c_5
    refine lv_iconst (v := (-1)) hx hb dX6_loaded_8 (by decide) ?_
    refine lv_goto (tgt := 26) hx hb dX6_loaded_9 (by decide) ?_
    exact m_iret (v := (-1)) hx hb hr hlk hC hH (fun _ => (0, 0)) rfl (Nat.le_of_ble_eq_true rfl) (Nat.le_of_ble_eq_true rfl) dX6_loaded_26
set_option maxHeartbeats 4000000 in
set_option maxRecDepth 100000 in
theorem c_X6_cached (l : Launch) (G : mG) (h : Nat → Nat) (n : Nat) (T : Nat → Int32) (z : Nat → Nat) (A : Nat → tA) (f : mF) (hI : IM G h n T z A f) (o : Int32) : Met l yX6_cached wsX6_cached ({ frames := 2, cells := 0, slots := 0, locals := 46 }) (va_Pc [.ref (h 0), .int o] (mW G f)) (va_Qi (fun (r : Int32) (u : mS) => u.2 = f) (fun (u : mS) t => mW G u.2 t) (mA G)) 0 0 (mA G) := by
  refine mMet [.ref (h 0), .int o] (cc := cX6_cached) (maxL := 2) (ret := (some .int)) (by decide) rfl (Nat.le_of_ble_eq_true rfl) ?_
  intro p e s m below meth c ls hx hb hr hml hts hown hlk hnm hC hH hl
  have hl : lv_has ls 2 [(0, .ref (h 0)), (1, .int o)] := hl
  have hj := hI.2.2.1
  have hn24 := hI.2.2.2.1
  have nIn : (nI n).toInt = (n : Int) := nI_toInt (by omega)
  have hfr : frM h f f := frM.rf
  have hkp : kpM h f f := kpM.rf
  refine lv_aload_n hx hb dX6_cached_0 rfl (lv_at hl 0 rfl) ?_
  refine lv_iload_n hx hb dX6_cached_1 rfl (lv_at hl 1 rfl) ?_
  obtain ⟨he_4, fe_4, ca_4, ga_4, wh_4, tm_4, wm_4, ac_4, th_4, st_4, F_4, b1_4, b2_4, b3_4, b4_4, b5_4, b6_4, b7_4, b8_4⟩ : okM0 h n (f (h 0)) := hI.1 0 (by decide)
  refine m_goi hH (va_runV (As := [.int o]) (rest := []) ⟨hx, hb, hml, hown, hts⟩ (c_X6_isObject l G h n T z A f hI o) (cwV 1 hts gX6_cached_X6_isObject rfl rfl rfl (by decide +kernel) ⟨Nat.le_of_ble_eq_true rfl, Nat.le_of_ble_eq_true rfl⟩) (m_preV (ci := 6) hC hH F_4 rfl) rfl rfl hl.1 rfl (lv_room (Nat.le_of_ble_eq_true rfl)) dX6_cached_2 ⟨Nat.le_of_ble_eq_true rfl, Nat.le_of_ble_eq_true rfl⟩) (fun r_1 rho_3 f_2 H locs hw hH => ?_)
  obtain ⟨hu, hr_1⟩ := hw
  have hu : f_2 = f := hu
  rw [hu] at hH
  refine lv_if_ne (tgt := 12) hx hb dX6_cached_5 (by decide) (fun c_5 => ?_) (fun c_5 => ?_)
  · skip
    have ic_5 : (r_1.toInt : Int) ≠ 0 := ic_ne rfl kI_0 c_5
    refine lv_aload_n hx hb dX6_cached_12 rfl (lv_at hl 0 rfl) ?_
    refine m_get (ci := 6) (v := .ref (h 6)) (C := RX6) (T := TX6) (N := 30) hx hb hC hH hts in_X6_cached_X6 hown F_4 rfl 6 (by decide) (hts (.fieldLink RX6 24 "LazyStateModel" "isCached" "[Z") (by decide +kernel)) rfl dX6_cached_13 ?_
    refine lv_iload_n hx hb dX6_cached_16 rfl (lv_at hl 1 rfl) ?_
    obtain ⟨g_6, hg_6, hp_6⟩ : okI G 2 24 (fun _ => True) (f (h 6)) := hI.1 6 (by decide)
    refine m_zald hx hb hC hH hg_6 (vp_in_iff.mpr ⟨by omega, by omega⟩) dX6_cached_17 ?_
    refine lv_topi (fun x_7 ex_7 => ?_)
    refine lv_if_eq (tgt := 25) hx hb dX6_cached_18 (by decide) (fun c_8 => ?_) (fun c_8 => ?_)
    · skip
      have ic_8 : (x_7.toInt : Int) = 0 := ic_eq rfl kI_0 c_8
      refine lv_iconst (v := 0) hx hb dX6_cached_25 (by decide) ?_
      exact m_iret (v := 0) hx hb hr hlk hC hH (fun _ => (0, 0)) rfl (Nat.le_of_ble_eq_true rfl) (Nat.le_of_ble_eq_true rfl) dX6_cached_26
    · skip
      have ic_8 : (x_7.toInt : Int) ≠ 0 := ic_ne rfl kI_0 c_8
      refine lv_iconst (v := 1) hx hb dX6_cached_21 (by decide) ?_
      refine lv_goto (tgt := 26) hx hb dX6_cached_22 (by decide) ?_
      exact m_iret (v := 1) hx hb hr hlk hC hH (fun _ => (0, 0)) rfl (Nat.le_of_ble_eq_true rfl) (Nat.le_of_ble_eq_true rfl) dX6_cached_26
  · skip
    have ic_5 : (r_1.toInt : Int) = 0 := ic_eq rfl kI_0 c_5
    refine lv_iconst (v := (-1)) hx hb dX6_cached_8 (by decide) ?_
    refine lv_goto (tgt := 26) hx hb dX6_cached_9 (by decide) ?_
    exact m_iret (v := (-1)) hx hb hr hlk hC hH (fun _ => (0, 0)) rfl (Nat.le_of_ble_eq_true rfl) (Nat.le_of_ble_eq_true rfl) dX6_cached_26
set_option maxHeartbeats 4000000 in
set_option maxRecDepth 100000 in
theorem c_X6_hint (l : Launch) (G : mG) (h : Nat → Nat) (n : Nat) (T : Nat → Int32) (z : Nat → Nat) (A : Nat → tA) (f : mF) (hI : IM G h n T z A f) (o : Int32) : Met l yX6_hint wsX6_hint ({ frames := 2, cells := 0, slots := 0, locals := 46 }) (va_Pc [.ref (h 0), .int o] (mW G f)) (va_Qi (fun (r : Int32) (u : mS) => IM G h n T z A u.2 ∧ frM h f u.2) (fun (u : mS) t => mW G u.2 t) (mA G)) 0 0 (mA G) := by
  refine mMet [.ref (h 0), .int o] (cc := cX6_hint) (maxL := 3) (ret := (some .int)) (by decide) rfl (Nat.le_of_ble_eq_true rfl) ?_
  intro p e s m below meth c ls hx hb hr hml hts hown hlk hnm hC hH hl
  have hl : lv_has ls 3 [(0, .ref (h 0)), (1, .int o)] := hl
  have hj := hI.2.2.1
  have hn24 := hI.2.2.2.1
  have nIn : (nI n).toInt = (n : Int) := nI_toInt (by omega)
  have hfr : frM h f f := frM.rf
  have hkp : kpM h f f := kpM.rf
  refine lv_aload_n hx hb dX6_hint_0 rfl (lv_at hl 0 rfl) ?_
  refine lv_iload_n hx hb dX6_hint_1 rfl (lv_at hl 1 rfl) ?_
  obtain ⟨he_4, fe_4, ca_4, ga_4, wh_4, tm_4, wm_4, ac_4, th_4, st_4, F_4, b1_4, b2_4, b3_4, b4_4, b5_4, b6_4, b7_4, b8_4⟩ : okM0 h n (f (h 0)) := hI.1 0 (by decide)
  refine m_goi hH (va_runV (As := [.int o]) (rest := []) ⟨hx, hb, hml, hown, hts⟩ (c_X6_isObject l G h n T z A f hI o) (cwV 1 hts gX6_hint_X6_isObject rfl rfl rfl (by decide +kernel) ⟨Nat.le_of_ble_eq_true rfl, Nat.le_of_ble_eq_true rfl⟩) (m_preV (ci := 6) hC hH F_4 rfl) rfl rfl hl.1 rfl (lv_room (Nat.le_of_ble_eq_true rfl)) dX6_hint_2 ⟨Nat.le_of_ble_eq_true rfl, Nat.le_of_ble_eq_true rfl⟩) (fun r_1 rho_3 f_2 H locs hw hH => ?_)
  obtain ⟨hu, hr_1⟩ := hw
  have hu : f_2 = f := hu
  rw [hu] at hH
  refine lv_if_ne (tgt := 10) hx hb dX6_hint_5 (by decide) (fun c_5 => ?_) (fun c_5 => ?_)
  · skip
    have ic_5 : (r_1.toInt : Int) ≠ 0 := ic_ne rfl kI_0 c_5
    refine lv_aload_n hx hb dX6_hint_10 rfl (lv_at hl 0 rfl) ?_
    refine m_get (ci := 6) (v := .ref (h 6)) (C := RX6) (T := TX6) (N := 30) hx hb hC hH hts in_X6_hint_X6 hown F_4 rfl 6 (by decide) (hts (.fieldLink RX6 24 "LazyStateModel" "isCached" "[Z") (by decide +kernel)) rfl dX6_hint_11 ?_
    refine lv_iload_n hx hb dX6_hint_14 rfl (lv_at hl 1 rfl) ?_
    obtain ⟨g_6, hg_6, hp_6⟩ : okI G 2 24 (fun _ => True) (f (h 6)) := hI.1 6 (by decide)
    refine m_zald hx hb hC hH hg_6 (vp_in_iff.mpr ⟨by omega, by omega⟩) dX6_hint_15 ?_
    refine lv_topi (fun x_7 ex_7 => ?_)
    refine lv_if_eq (tgt := 23) hx hb dX6_hint_16 (by decide) (fun c_8 => ?_) (fun c_8 => ?_)
    · skip
      have ic_8 : (x_7.toInt : Int) = 0 := ic_eq rfl kI_0 c_8
      refine lv_iconst (v := 1) hx hb dX6_hint_23 (by decide) ?_
      refine lv_istore_n (lv' := [(2, .int 1), (0, .ref (h 0)), (1, .int o)]) hx hb dX6_hint_24 rfl hl (by decide) rfl (fun ls hl => ?_)
      refine lv_aload_n hx hb dX6_hint_25 rfl (lv_at hl 1 rfl) ?_
      refine lv_dup hx hb dX6_hint_26 rfl ?_
      refine m_get (ci := 6) (v := .int fe_4) (C := RX6) (T := TX6) (N := 30) hx hb hC hH hts in_X6_hint_X6 hown F_4 rfl 7 (by decide) (hts (.fieldLink RX6 149 "LazyStateModel" "fetches" "I") (by decide +kernel)) rfl dX6_hint_27 ?_
      refine lv_iload_n hx hb dX6_hint_30 rfl (lv_at hl 0 rfl) ?_
      refine lv_iadd hx hb dX6_hint_31 ?_
      refine lv_topi (fun x_9 ex_9 => ?_)
      refine m_put (ci := 6) (v := .int x_9) (C := RX6) (T := TX6) (N := 30) hx hb hC hH hts in_X6_hint_X6 tyX6 tyX6_ok nmX6 hown F_4 rfl 7 (by decide) (hts (.fieldLink RX6 149 "LazyStateModel" "fetches" "I") (by decide +kernel)) rfl rfl rfl (Nat.le_of_ble_eq_true rfl) dX6_hint_32 (fun H locs hH => ?_)
      have hH : mH G s (va_up f (h 0) (some (.inr (6, [.int (nI n), .ref (h 1), .int he_4, .ref (h 3), .ref (h 4), .ref (h 5), .ref (h 6), .int x_9, .ref (h 8), .ref (h 9), .ref (h 10), .ref (h 11), .ref (h 12), .ref (h 13), .ref (h 14), .ref (h 15), .int ca_4, .long ga_4, .int wh_4, .int tm_4, .ref (h 20), .ref (h 21), .int wm_4, .ref (h 23), .ref (h 24), .int ac_4, .ref (h 26), .ref (h 27), .int th_4, .int st_4])))) H locs := hH
      obtain ⟨f_10, ef_10⟩ : ∃ zz_ : mF, zz_ = va_up f (h 0) (some (.inr (6, [.int (nI n), .ref (h 1), .int he_4, .ref (h 3), .ref (h 4), .ref (h 5), .ref (h 6), .int x_9, .ref (h 8), .ref (h 9), .ref (h 10), .ref (h 11), .ref (h 12), .ref (h 13), .ref (h 14), .ref (h 15), .int ca_4, .long ga_4, .int wh_4, .int tm_4, .ref (h 20), .ref (h 21), .int wm_4, .ref (h 23), .ref (h 24), .int ac_4, .ref (h 26), .ref (h 27), .int th_4, .int st_4]))) := ⟨_, rfl⟩
      rw [← ef_10] at hH
      have F_11 : f_10 (h 0) = some (.inr (6, [.int (nI n), .ref (h 1), .int he_4, .ref (h 3), .ref (h 4), .ref (h 5), .ref (h 6), .int x_9, .ref (h 8), .ref (h 9), .ref (h 10), .ref (h 11), .ref (h 12), .ref (h 13), .ref (h 14), .ref (h 15), .int ca_4, .long ga_4, .int wh_4, .int tm_4, .ref (h 20), .ref (h 21), .int wm_4, .ref (h 23), .ref (h 24), .int ac_4, .ref (h 26), .ref (h 27), .int th_4, .int st_4])) := by rw [ef_10]; exact va_up_self _ _ _
      have hI : IM G h n T z A f_10 := hI.obj F_4 ef_10 rfl ⟨_, _, _, _, _, _, _, _, _, _, rfl, by omega, by omega, by omega, by omega, by omega, by omega, by omega, by omega⟩
      have hfr := hfr.up 0 (by decide) ef_10
      have hkp := hkp.obj F_4 F_11 rfl rfl rfl
      have hg_12 := upk hg_6 ef_10 (neM hj (by decide) (by decide) (by decide))
      refine lv_aload_n hx hb dX6_hint_35 rfl (lv_at hl 1 rfl) ?_
      refine m_get (ci := 6) (v := .ref (h 6)) (C := RX6) (T := TX6) (N := 30) hx hb hC hH hts in_X6_hint_X6 hown F_11 rfl 6 (by decide) (hts (.fieldLink RX6 24 "LazyStateModel" "isCached" "[Z") (by decide +kernel)) rfl dX6_hint_36 ?_
      refine lv_iload_n hx hb dX6_hint_39 rfl (lv_at hl 2 rfl) ?_
      refine lv_iconst (v := 1) hx hb dX6_hint_40 (by decide) ?_
      refine m_zast hx hb hC hH hg_12 (vp_in_iff.mpr ⟨by omega, by omega⟩) dX6_hint_41 (fun H locs hH => ?_)
      obtain ⟨f_13, ef_13⟩ : ∃ zz_ : mF, zz_ = va_up f_10 (h 6) (some (.inl (gk G 2, 24, .inl (upd g_6 o.toNatClampNeg (vp_nar .boolean 1))))) := ⟨_, rfl⟩
      rw [← ef_13] at hH
      have F_14 := upk F_11 ef_13 (neM hj (by decide) (by decide) (by decide))
      have hI : IM G h n T z A f_13 := hI.arr 6 (by decide) (by decide) (by decide) (by decide) (show okI G 2 24 (fun _ => True) _ from ⟨_, rfl, trivial⟩) ef_13
      have hfr := hfr.up 6 (by decide) ef_13
      have hkp := hkp.up 6 hj (by decide) (by decide) ef_13
      refine lv_iload_n hx hb dX6_hint_42 rfl (lv_at hl 0 rfl) ?_
      exact m_iret (v := 1) hx hb hr hlk hC hH (fun _ => (0, 0)) ⟨hI, hfr⟩ (Nat.le_of_ble_eq_true rfl) (Nat.le_of_ble_eq_true rfl) dX6_hint_43
    · skip
      have ic_8 : (x_7.toInt : Int) ≠ 0 := ic_ne rfl kI_0 c_8
      refine lv_iconst (v := 0) hx hb dX6_hint_19 (by decide) ?_
      refine lv_goto (tgt := 24) hx hb dX6_hint_20 (by decide) ?_
      refine lv_istore_n (lv' := [(2, .int 0), (0, .ref (h 0)), (1, .int o)]) hx hb dX6_hint_24 rfl hl (by decide) rfl (fun ls hl => ?_)
      refine lv_aload_n hx hb dX6_hint_25 rfl (lv_at hl 1 rfl) ?_
      refine lv_dup hx hb dX6_hint_26 rfl ?_
      refine m_get (ci := 6) (v := .int fe_4) (C := RX6) (T := TX6) (N := 30) hx hb hC hH hts in_X6_hint_X6 hown F_4 rfl 7 (by decide) (hts (.fieldLink RX6 149 "LazyStateModel" "fetches" "I") (by decide +kernel)) rfl dX6_hint_27 ?_
      refine lv_iload_n hx hb dX6_hint_30 rfl (lv_at hl 0 rfl) ?_
      refine lv_iadd hx hb dX6_hint_31 ?_
      refine lv_topi (fun x_15 ex_15 => ?_)
      refine m_put (ci := 6) (v := .int x_15) (C := RX6) (T := TX6) (N := 30) hx hb hC hH hts in_X6_hint_X6 tyX6 tyX6_ok nmX6 hown F_4 rfl 7 (by decide) (hts (.fieldLink RX6 149 "LazyStateModel" "fetches" "I") (by decide +kernel)) rfl rfl rfl (Nat.le_of_ble_eq_true rfl) dX6_hint_32 (fun H locs hH => ?_)
      have hH : mH G s (va_up f (h 0) (some (.inr (6, [.int (nI n), .ref (h 1), .int he_4, .ref (h 3), .ref (h 4), .ref (h 5), .ref (h 6), .int x_15, .ref (h 8), .ref (h 9), .ref (h 10), .ref (h 11), .ref (h 12), .ref (h 13), .ref (h 14), .ref (h 15), .int ca_4, .long ga_4, .int wh_4, .int tm_4, .ref (h 20), .ref (h 21), .int wm_4, .ref (h 23), .ref (h 24), .int ac_4, .ref (h 26), .ref (h 27), .int th_4, .int st_4])))) H locs := hH
      obtain ⟨f_16, ef_16⟩ : ∃ zz_ : mF, zz_ = va_up f (h 0) (some (.inr (6, [.int (nI n), .ref (h 1), .int he_4, .ref (h 3), .ref (h 4), .ref (h 5), .ref (h 6), .int x_15, .ref (h 8), .ref (h 9), .ref (h 10), .ref (h 11), .ref (h 12), .ref (h 13), .ref (h 14), .ref (h 15), .int ca_4, .long ga_4, .int wh_4, .int tm_4, .ref (h 20), .ref (h 21), .int wm_4, .ref (h 23), .ref (h 24), .int ac_4, .ref (h 26), .ref (h 27), .int th_4, .int st_4]))) := ⟨_, rfl⟩
      rw [← ef_16] at hH
      have F_17 : f_16 (h 0) = some (.inr (6, [.int (nI n), .ref (h 1), .int he_4, .ref (h 3), .ref (h 4), .ref (h 5), .ref (h 6), .int x_15, .ref (h 8), .ref (h 9), .ref (h 10), .ref (h 11), .ref (h 12), .ref (h 13), .ref (h 14), .ref (h 15), .int ca_4, .long ga_4, .int wh_4, .int tm_4, .ref (h 20), .ref (h 21), .int wm_4, .ref (h 23), .ref (h 24), .int ac_4, .ref (h 26), .ref (h 27), .int th_4, .int st_4])) := by rw [ef_16]; exact va_up_self _ _ _
      have hI : IM G h n T z A f_16 := hI.obj F_4 ef_16 rfl ⟨_, _, _, _, _, _, _, _, _, _, rfl, by omega, by omega, by omega, by omega, by omega, by omega, by omega, by omega⟩
      have hfr := hfr.up 0 (by decide) ef_16
      have hkp := hkp.obj F_4 F_17 rfl rfl rfl
      have hg_18 := upk hg_6 ef_16 (neM hj (by decide) (by decide) (by decide))
      refine lv_aload_n hx hb dX6_hint_35 rfl (lv_at hl 1 rfl) ?_
      refine m_get (ci := 6) (v := .ref (h 6)) (C := RX6) (T := TX6) (N := 30) hx hb hC hH hts in_X6_hint_X6 hown F_17 rfl 6 (by decide) (hts (.fieldLink RX6 24 "LazyStateModel" "isCached" "[Z") (by decide +kernel)) rfl dX6_hint_36 ?_
      refine lv_iload_n hx hb dX6_hint_39 rfl (lv_at hl 2 rfl) ?_
      refine lv_iconst (v := 1) hx hb dX6_hint_40 (by decide) ?_
      refine m_zast hx hb hC hH hg_18 (vp_in_iff.mpr ⟨by omega, by omega⟩) dX6_hint_41 (fun H locs hH => ?_)
      obtain ⟨f_19, ef_19⟩ : ∃ zz_ : mF, zz_ = va_up f_16 (h 6) (some (.inl (gk G 2, 24, .inl (upd g_6 o.toNatClampNeg (vp_nar .boolean 1))))) := ⟨_, rfl⟩
      rw [← ef_19] at hH
      have F_20 := upk F_17 ef_19 (neM hj (by decide) (by decide) (by decide))
      have hI : IM G h n T z A f_19 := hI.arr 6 (by decide) (by decide) (by decide) (by decide) (show okI G 2 24 (fun _ => True) _ from ⟨_, rfl, trivial⟩) ef_19
      have hfr := hfr.up 6 (by decide) ef_19
      have hkp := hkp.up 6 hj (by decide) (by decide) ef_19
      refine lv_iload_n hx hb dX6_hint_42 rfl (lv_at hl 0 rfl) ?_
      exact m_iret (v := 0) hx hb hr hlk hC hH (fun _ => (0, 0)) ⟨hI, hfr⟩ (Nat.le_of_ble_eq_true rfl) (Nat.le_of_ble_eq_true rfl) dX6_hint_43
  · skip
    have ic_5 : (r_1.toInt : Int) = 0 := ic_eq rfl kI_0 c_5
    refine lv_iconst (v := (-1)) hx hb dX6_hint_8 (by decide) ?_
    exact m_iret (v := (-1)) hx hb hr hlk hC hH (fun _ => (0, 0)) ⟨hI, hfr⟩ (Nat.le_of_ble_eq_true rfl) (Nat.le_of_ble_eq_true rfl) dX6_hint_9
set_option maxHeartbeats 4000000 in
set_option maxRecDepth 100000 in
theorem c_X6_times (l : Launch) (G : mG) (h : Nat → Nat) (n : Nat) (T : Nat → Int32) (z : Nat → Nat) (A : Nat → tA) (f : mF) (hI : IM G h n T z A f) (j : Int32) : Met l yX6_times wsX6_times ({ frames := 2, cells := 0, slots := 0, locals := 46 }) (va_Pc [.ref (h 0), .int j] (mW G f)) (va_Qi (fun (r : Int32) (u : mS) => u.2 = f) (fun (u : mS) t => mW G u.2 t) (mA G)) 0 0 (mA G) := by
  refine mMet [.ref (h 0), .int j] (cc := cX6_times) (maxL := 3) (ret := (some .int)) (by decide) rfl (Nat.le_of_ble_eq_true rfl) ?_
  intro p e s m below meth c ls hx hb hr hml hts hown hlk hnm hC hH hl
  have hl : lv_has ls 3 [(0, .ref (h 0)), (1, .int j)] := hl
  have hj := hI.2.2.1
  have hn24 := hI.2.2.2.1
  have nIn : (nI n).toInt = (n : Int) := nI_toInt (by omega)
  have hfr : frM h f f := frM.rf
  have hkp : kpM h f f := kpM.rf
  refine lv_iload_n hx hb dX6_times_0 rfl (lv_at hl 1 rfl) ?_
  refine lv_i2l hx hb dX6_times_1 rfl ?_
  refine lv_topl (fun y_1 ey_1 => ?_)
  have iy_1 : y_1.toInt = j.toInt := lc_i2l ey_1 rfl
  have gy_1 := ic_rng j
  refine lv_lconst (v := 0) hx hb dX6_times_2 (by decide) ?_
  refine lv_ldc2 (v := 191) hx hb hown (hts (.constantLong RX6 212 (191)) (by decide +kernel)) dX6_times_3 ?_
  refine m_goi hH (va_runS (As := [.long y_1, .long 0, .long 191]) (rest := []) ⟨hx, hb, hml, hown, hts⟩ (c_X6_in l G f y_1 0 191) (va_cwS 3 hts gX6_times_X6_in rfl rfl rfl (by decide +kernel) ⟨Nat.le_of_ble_eq_true rfl, Nat.le_of_ble_eq_true rfl⟩) (m_preS hC hH) rfl rfl hl.1 rfl (lv_room (Nat.le_of_ble_eq_true rfl)) dX6_times_6 ⟨Nat.le_of_ble_eq_true rfl, Nat.le_of_ble_eq_true rfl⟩) (fun r_2 rho_4 f_3 H locs hw hH => ?_)
  obtain ⟨hu, hr_2⟩ := hw
  have hu : f_3 = f := hu
  rw [hu] at hH
  have hr_2 : (r_2.toInt = 1 ∧ 0 ≤ y_1.toInt ∧ y_1.toInt ≤ 191) ∨ (r_2.toInt = 0 ∧ (y_1.toInt < 0 ∨ 191 < y_1.toInt)) := by have q0 := (rfl : y_1.toInt = _); have q1 := kJ_0; have q2 := kJ_191; omega
  refine lv_if_eq (tgt := 46) hx hb dX6_times_9 (by decide) (fun c_5 => ?_) (fun c_5 => ?_)
  · skip
    have ic_5 : (r_2.toInt : Int) = 0 := ic_eq rfl kI_0 c_5
    refine lv_iconst (v := 0) hx hb dX6_times_46 (by decide) ?_
    refine lv_istore_n (lv' := [(2, .int 0), (0, .ref (h 0)), (1, .int j)]) hx hb dX6_times_47 rfl hl (by decide) rfl (fun ls hl => ?_)
    refine lv_iload_n hx hb dX6_times_48 rfl (lv_at hl 0 rfl) ?_
    refine lv_if_eq (tgt := 61) hx hb dX6_times_49 (by decide) (fun c_6 => ?_) (fun c_6 => ?_)
    · skip
      have ic_6 : (0 : Int) = 0 := ic_eq kI_0 kI_0 c_6
      refine lv_iconst (v := (-1)) hx hb dX6_times_61 (by decide) ?_
      exact m_iret (v := (-1)) hx hb hr hlk hC hH (fun _ => (0, 0)) rfl (Nat.le_of_ble_eq_true rfl) (Nat.le_of_ble_eq_true rfl) dX6_times_62
    · skip
      have ic_6 : (0 : Int) ≠ 0 := ic_ne kI_0 kI_0 c_6
      omega
  · skip
    have ic_5 : (r_2.toInt : Int) ≠ 0 := ic_ne rfl kI_0 c_5
    refine lv_aload_n hx hb dX6_times_12 rfl (lv_at hl 0 rfl) ?_
    refine lv_iload_n hx hb dX6_times_13 rfl (lv_at hl 1 rfl) ?_
    refine lv_bipush (v := 8) hx hb dX6_times_14 (by decide) ?_
    refine lv_idiv hx hb dX6_times_16 (by decide) ?_
    refine lv_topi (fun x_7 ex_7 => ?_)
    have ix_7 : x_7.toInt = j.toInt / 8 := ic_div8 ex_7 rfl (by omega)
    obtain ⟨he_11, fe_11, ca_11, ga_11, wh_11, tm_11, wm_11, ac_11, th_11, st_11, F_11, b1_11, b2_11, b3_11, b4_11, b5_11, b6_11, b7_11, b8_11⟩ : okM0 h n (f (h 0)) := hI.1 0 (by decide)
    refine m_goi hH (va_runV (As := [.int x_7]) (rest := []) ⟨hx, hb, hml, hown, hts⟩ (c_X6_isObject l G h n T z A f hI x_7) (cwV 1 hts gX6_times_X6_isObject rfl rfl rfl (by decide +kernel) ⟨Nat.le_of_ble_eq_true rfl, Nat.le_of_ble_eq_true rfl⟩) (m_preV (ci := 6) hC hH F_11 rfl) rfl rfl hl.1 rfl (lv_room (Nat.le_of_ble_eq_true rfl)) dX6_times_17 ⟨Nat.le_of_ble_eq_true rfl, Nat.le_of_ble_eq_true rfl⟩) (fun r_8 rho_10 f_9 H locs hw hH => ?_)
    obtain ⟨hu, hr_8⟩ := hw
    have hu : f_9 = f := hu
    rw [hu] at hH
    refine lv_if_eq (tgt := 46) hx hb dX6_times_20 (by decide) (fun c_12 => ?_) (fun c_12 => ?_)
    · skip
      have ic_12 : (r_8.toInt : Int) = 0 := ic_eq rfl kI_0 c_12
      refine lv_iconst (v := 0) hx hb dX6_times_46 (by decide) ?_
      refine lv_istore_n (lv' := [(2, .int 0), (0, .ref (h 0)), (1, .int j)]) hx hb dX6_times_47 rfl hl (by decide) rfl (fun ls hl => ?_)
      refine lv_iload_n hx hb dX6_times_48 rfl (lv_at hl 0 rfl) ?_
      refine lv_if_eq (tgt := 61) hx hb dX6_times_49 (by decide) (fun c_13 => ?_) (fun c_13 => ?_)
      · skip
        have ic_13 : (0 : Int) = 0 := ic_eq kI_0 kI_0 c_13
        refine lv_iconst (v := (-1)) hx hb dX6_times_61 (by decide) ?_
        exact m_iret (v := (-1)) hx hb hr hlk hC hH (fun _ => (0, 0)) rfl (Nat.le_of_ble_eq_true rfl) (Nat.le_of_ble_eq_true rfl) dX6_times_62
      · skip
        have ic_13 : (0 : Int) ≠ 0 := ic_ne kI_0 kI_0 c_13
        omega
    · skip
      have ic_12 : (r_8.toInt : Int) ≠ 0 := ic_ne rfl kI_0 c_12
      refine lv_iload_n hx hb dX6_times_23 rfl (lv_at hl 1 rfl) ?_
      refine lv_bipush (v := 8) hx hb dX6_times_24 (by decide) ?_
      refine lv_irem hx hb dX6_times_26 (by decide) ?_
      refine lv_topi (fun x_14 ex_14 => ?_)
      have ix_14 : x_14.toInt = j.toInt % 8 := ic_rem8 ex_14 rfl (by omega)
      refine lv_aload_n hx hb dX6_times_27 rfl (lv_at hl 0 rfl) ?_
      refine m_get (ci := 6) (v := .ref (h 1)) (C := RX6) (T := TX6) (N := 30) hx hb hC hH hts in_X6_times_X6 hown F_11 rfl 1 (by decide) (hts (.fieldLink RX6 7 "LazyStateModel" "types" "[I") (by decide +kernel)) rfl dX6_times_28 ?_
      refine lv_iload_n hx hb dX6_times_31 rfl (lv_at hl 1 rfl) ?_
      refine lv_bipush (v := 8) hx hb dX6_times_32 (by decide) ?_
      refine lv_idiv hx hb dX6_times_34 (by decide) ?_
      refine lv_topi (fun x_15 ex_15 => ?_)
      have ix_15 : x_15.toInt = j.toInt / 8 := ic_div8 ex_15 rfl (by omega)
      obtain ⟨g_16, hg_16, hp_16⟩ : okI G 0 24 (fun g => ∀ o, o < n → g o = T o) (f (h 1)) := hI.1 1 (by decide)
      refine m_iald hx hb hC hH hg_16 (vp_in_iff.mpr ⟨by omega, by omega⟩) dX6_times_35 ?_
      refine lv_topi (fun x_17 ex_17 => ?_)
      refine m_goi hH (va_runS (As := [.int x_17]) (rest := [.int x_14]) ⟨hx, hb, hml, hown, hts⟩ (c_X6_fieldsOf l G f x_17) (va_cwS 1 hts gX6_times_X6_fieldsOf rfl rfl rfl (by decide +kernel) ⟨Nat.le_of_ble_eq_true rfl, Nat.le_of_ble_eq_true rfl⟩) (m_preS hC hH) rfl rfl hl.1 rfl (lv_room (Nat.le_of_ble_eq_true rfl)) dX6_times_36 ⟨Nat.le_of_ble_eq_true rfl, Nat.le_of_ble_eq_true rfl⟩) (fun r_18 rho_20 f_19 H locs hw hH => ?_)
      obtain ⟨hu, hr_18⟩ := hw
      have hu : f_19 = f := hu
      rw [hu] at hH
      have br_18 : 3 ≤ r_18.toInt ∧ r_18.toInt ≤ 6 := by rw [hr_18]; unfold fldM; (repeat' split) <;> omega
      refine lv_icmp_ge (tgt := 46) hx hb dX6_times_39 (by decide) (fun c_21 => ?_) (fun c_21 => ?_)
      · skip
        have ic_21 : (r_18.toInt : Int) ≤ x_14.toInt := ic_le rfl rfl c_21
        refine lv_iconst (v := 0) hx hb dX6_times_46 (by decide) ?_
        refine lv_istore_n (lv' := [(2, .int 0), (0, .ref (h 0)), (1, .int j)]) hx hb dX6_times_47 rfl hl (by decide) rfl (fun ls hl => ?_)
        refine lv_iload_n hx hb dX6_times_48 rfl (lv_at hl 0 rfl) ?_
        refine lv_if_eq (tgt := 61) hx hb dX6_times_49 (by decide) (fun c_22 => ?_) (fun c_22 => ?_)
        · skip
          have ic_22 : (0 : Int) = 0 := ic_eq kI_0 kI_0 c_22
          refine lv_iconst (v := (-1)) hx hb dX6_times_61 (by decide) ?_
          exact m_iret (v := (-1)) hx hb hr hlk hC hH (fun _ => (0, 0)) rfl (Nat.le_of_ble_eq_true rfl) (Nat.le_of_ble_eq_true rfl) dX6_times_62
        · skip
          have ic_22 : (0 : Int) ≠ 0 := ic_ne kI_0 kI_0 c_22
          omega
      · skip
        have ic_21 : (r_18.toInt : Int) > x_14.toInt := ic_nle rfl rfl c_21
        refine lv_iconst (v := 1) hx hb dX6_times_42 (by decide) ?_
        refine lv_goto (tgt := 47) hx hb dX6_times_43 (by decide) ?_
        refine lv_istore_n (lv' := [(2, .int 1), (0, .ref (h 0)), (1, .int j)]) hx hb dX6_times_47 rfl hl (by decide) rfl (fun ls hl => ?_)
        refine lv_iload_n hx hb dX6_times_48 rfl (lv_at hl 0 rfl) ?_
        refine lv_if_eq (tgt := 61) hx hb dX6_times_49 (by decide) (fun c_23 => ?_) (fun c_23 => ?_)
        · skip
          have ic_23 : (1 : Int) = 0 := ic_eq kI_1 kI_0 c_23
          omega
        · skip
          have ic_23 : (1 : Int) ≠ 0 := ic_ne kI_1 kI_0 c_23
          refine lv_aload_n hx hb dX6_times_52 rfl (lv_at hl 1 rfl) ?_
          refine m_get (ci := 6) (v := .ref (h 8)) (C := RX6) (T := TX6) (N := 30) hx hb hC hH hts in_X6_times_X6 hown F_11 rfl 8 (by decide) (hts (.fieldLink RX6 28 "LazyStateModel" "times" "[I") (by decide +kernel)) rfl dX6_times_53 ?_
          refine lv_iload_n hx hb dX6_times_56 rfl (lv_at hl 2 rfl) ?_
          obtain ⟨g_24, hg_24, hp_24⟩ : okI G 0 192 (fun _ => True) (f (h 8)) := hI.1 8 (by decide)
          refine m_iald hx hb hC hH hg_24 (vp_in_iff.mpr ⟨by omega, by omega⟩) dX6_times_57 ?_
          refine lv_topi (fun x_25 ex_25 => ?_)
          refine lv_goto (tgt := 62) hx hb dX6_times_58 (by decide) ?_
          exact m_iret (v := x_25) hx hb hr hlk hC hH (fun _ => (0, 0)) rfl (Nat.le_of_ble_eq_true rfl) (Nat.le_of_ble_eq_true rfl) dX6_times_62
set_option maxHeartbeats 4000000 in
set_option maxRecDepth 100000 in
theorem c_X6_all (l : Launch) (G : mG) (h : Nat → Nat) (n : Nat) (T : Nat → Int32) (z : Nat → Nat) (A : Nat → tA) (f : mF) (hI : IM G h n T z A f) (o b : Int32) (v : Int64) : Met l yX6_all wsX6_all ({ frames := 2, cells := 0, slots := 0, locals := 46 }) (va_Pc [.ref (h 0), .int o, .int b, .long v] (mW G f)) (va_Qi (fun (r : Int32) (u : mS) => u.2 = f) (fun (u : mS) t => mW G u.2 t) (mA G)) 0 0 (mA G) := by
  refine mMet [.ref (h 0), .int o, .int b, .long v] (cc := cX6_all) (maxL := 5) (ret := (some .int)) (by decide) rfl (Nat.le_of_ble_eq_true rfl) ?_
  intro p e s m below meth c ls hx hb hr hml hts hown hlk hnm hC hH hl
  have hl : lv_has ls 5 [(0, .ref (h 0)), (1, .int o), (2, .int b), (3, .long v)] := hl
  have hj := hI.2.2.1
  have hn24 := hI.2.2.2.1
  have nIn : (nI n).toInt = (n : Int) := nI_toInt (by omega)
  have hfr : frM h f f := frM.rf
  have hkp : kpM h f f := kpM.rf
  refine lv_aload_n hx hb dX6_all_0 rfl (lv_at hl 0 rfl) ?_
  refine lv_iload_n hx hb dX6_all_1 rfl (lv_at hl 1 rfl) ?_
  obtain ⟨he_4, fe_4, ca_4, ga_4, wh_4, tm_4, wm_4, ac_4, th_4, st_4, F_4, b1_4, b2_4, b3_4, b4_4, b5_4, b6_4, b7_4, b8_4⟩ : okM0 h n (f (h 0)) := hI.1 0 (by decide)
  refine m_goi hH (va_runV (As := [.int o]) (rest := []) ⟨hx, hb, hml, hown, hts⟩ (c_X6_isObject l G h n T z A f hI o) (cwV 1 hts gX6_all_X6_isObject rfl rfl rfl (by decide +kernel) ⟨Nat.le_of_ble_eq_true rfl, Nat.le_of_ble_eq_true rfl⟩) (m_preV (ci := 6) hC hH F_4 rfl) rfl rfl hl.1 rfl (lv_room (Nat.le_of_ble_eq_true rfl)) dX6_all_2 ⟨Nat.le_of_ble_eq_true rfl, Nat.le_of_ble_eq_true rfl⟩) (fun r_1 rho_3 f_2 H locs hw hH => ?_)
  obtain ⟨hu, hr_1⟩ := hw
  have hu : f_2 = f := hu
  rw [hu] at hH
  refine lv_if_eq (tgt := 20) hx hb dX6_all_5 (by decide) (fun c_5 => ?_) (fun c_5 => ?_)
  · skip
    have ic_5 : (r_1.toInt : Int) = 0 := ic_eq rfl kI_0 c_5
    refine lv_iconst (v := (-1)) hx hb dX6_all_20 (by decide) ?_
    refine lv_goto (tgt := 39) hx hb dX6_all_21 (by decide) ?_
    exact m_iret (v := (-1)) hx hb hr hlk hC hH (fun _ => (0, 0)) rfl (Nat.le_of_ble_eq_true rfl) (Nat.le_of_ble_eq_true rfl) dX6_all_39
  · skip
    have ic_5 : (r_1.toInt : Int) ≠ 0 := ic_ne rfl kI_0 c_5
    refine lv_iload_n hx hb dX6_all_8 rfl (lv_at hl 2 rfl) ?_
    refine lv_i2l hx hb dX6_all_9 rfl ?_
    refine lv_topl (fun y_6 ey_6 => ?_)
    have iy_6 : y_6.toInt = b.toInt := lc_i2l ey_6 rfl
    have gy_6 := ic_rng b
    refine lv_lconst (v := 0) hx hb dX6_all_10 (by decide) ?_
    refine lv_ldc2 (v := 5) hx hb hown (hts (.constantLong RX6 143 (5)) (by decide +kernel)) dX6_all_11 ?_
    refine m_goi hH (va_runS (As := [.long y_6, .long 0, .long 5]) (rest := []) ⟨hx, hb, hml, hown, hts⟩ (c_X6_in l G f y_6 0 5) (va_cwS 3 hts gX6_all_X6_in rfl rfl rfl (by decide +kernel) ⟨Nat.le_of_ble_eq_true rfl, Nat.le_of_ble_eq_true rfl⟩) (m_preS hC hH) rfl rfl hl.1 rfl (lv_room (Nat.le_of_ble_eq_true rfl)) dX6_all_14 ⟨Nat.le_of_ble_eq_true rfl, Nat.le_of_ble_eq_true rfl⟩) (fun r_7 rho_9 f_8 H locs hw hH => ?_)
    obtain ⟨hu, hr_7⟩ := hw
    have hu : f_8 = f := hu
    rw [hu] at hH
    have hr_7 : (r_7.toInt = 1 ∧ 0 ≤ y_6.toInt ∧ y_6.toInt ≤ 5) ∨ (r_7.toInt = 0 ∧ (y_6.toInt < 0 ∨ 5 < y_6.toInt)) := by have q0 := (rfl : y_6.toInt = _); have q1 := kJ_0; have q2 := kJ_5; omega
    refine lv_if_ne (tgt := 24) hx hb dX6_all_17 (by decide) (fun c_10 => ?_) (fun c_10 => ?_)
    · skip
      have ic_10 : (r_7.toInt : Int) ≠ 0 := ic_ne rfl kI_0 c_10
      refine lv_aload_n hx hb dX6_all_24 rfl (lv_at hl 0 rfl) ?_
      refine m_get (ci := 6) (v := .int he_4) (C := RX6) (T := TX6) (N := 30) hx hb hC hH hts in_X6_all_X6 hown F_4 rfl 2 (by decide) (hts (.fieldLink RX6 104 "LazyStateModel" "height" "I") (by decide +kernel)) rfl dX6_all_25 ?_
      refine lv_bipush (v := 40) hx hb dX6_all_28 (by decide) ?_
      refine lv_icmp_ne (tgt := 38) hx hb dX6_all_30 (by decide) (fun c_11 => ?_) (fun c_11 => ?_)
      · skip
        have ic_11 : (he_4.toInt : Int) ≠ 40 := ic_ne rfl kI_40 c_11
        refine lv_iconst (v := 1) hx hb dX6_all_38 (by decide) ?_
        exact m_iret (v := 1) hx hb hr hlk hC hH (fun _ => (0, 0)) rfl (Nat.le_of_ble_eq_true rfl) (Nat.le_of_ble_eq_true rfl) dX6_all_39
      · skip
        have ic_11 : (he_4.toInt : Int) = 40 := ic_eq rfl kI_40 c_11
        refine lv_bipush (v := (-2)) hx hb dX6_all_33 (by decide) ?_
        refine lv_goto (tgt := 39) hx hb dX6_all_35 (by decide) ?_
        exact m_iret (v := (-2)) hx hb hr hlk hC hH (fun _ => (0, 0)) rfl (Nat.le_of_ble_eq_true rfl) (Nat.le_of_ble_eq_true rfl) dX6_all_39
    · skip
      have ic_10 : (r_7.toInt : Int) = 0 := ic_eq rfl kI_0 c_10
      refine lv_iconst (v := (-1)) hx hb dX6_all_20 (by decide) ?_
      refine lv_goto (tgt := 39) hx hb dX6_all_21 (by decide) ?_
      exact m_iret (v := (-1)) hx hb hr hlk hC hH (fun _ => (0, 0)) rfl (Nat.le_of_ble_eq_true rfl) (Nat.le_of_ble_eq_true rfl) dX6_all_39
set_option maxHeartbeats 4000000 in
set_option maxRecDepth 100000 in
theorem c_X6_view (l : Launch) (G : mG) (h : Nat → Nat) (n : Nat) (T : Nat → Int32) (z : Nat → Nat) (A : Nat → tA) (f : mF) (hI : IM G h n T z A f) (o j a i : Int32) : Met l yX6_view wsX6_view ({ frames := 2, cells := 0, slots := 0, locals := 46 }) (va_Pc [.ref (h 0), .int o, .int j, .int a, .int i] (mW G f)) (va_Ql (fun (r : Int64) (u : mS) => IM G h n T z A u.2 ∧ frM h f u.2) (fun (u : mS) t => mW G u.2 t) (mA G)) 0 0 (mA G) := by
  refine mMet [.ref (h 0), .int o, .int j, .int a, .int i] (cc := cX6_view) (maxL := 7) (ret := (some .long)) (by decide) rfl (Nat.le_of_ble_eq_true rfl) ?_
  intro p e s m below meth c ls hx hb hr hml hts hown hlk hnm hC hH hl
  have hl : lv_has ls 7 [(0, .ref (h 0)), (1, .int o), (2, .int j), (3, .int a), (4, .int i)] := hl
  have hj := hI.2.2.1
  have hn24 := hI.2.2.2.1
  have nIn : (nI n).toInt = (n : Int) := nI_toInt (by omega)
  have hfr : frM h f f := frM.rf
  have hkp : kpM h f f := kpM.rf
  refine lv_aload_n hx hb dX6_view_0 rfl (lv_at hl 0 rfl) ?_
  refine lv_iconst (v := (-1)) hx hb dX6_view_1 (by decide) ?_
  obtain ⟨he_1, fe_1, ca_1, ga_1, wh_1, tm_1, wm_1, ac_1, th_1, st_1, F_1, b1_1, b2_1, b3_1, b4_1, b5_1, b6_1, b7_1, b8_1⟩ : okM0 h n (f (h 0)) := hI.1 0 (by decide)
  refine m_put (ci := 6) (v := .int (-1)) (C := RX6) (T := TX6) (N := 30) hx hb hC hH hts in_X6_view_X6 tyX6 tyX6_ok nmX6 hown F_1 rfl 29 (by decide) (hts (.fieldLink RX6 214 "LazyStateModel" "status" "I") (by decide +kernel)) rfl rfl rfl (Nat.le_of_ble_eq_true rfl) dX6_view_2 (fun H locs hH => ?_)
  have hH : mH G s (va_up f (h 0) (some (.inr (6, [.int (nI n), .ref (h 1), .int he_1, .ref (h 3), .ref (h 4), .ref (h 5), .ref (h 6), .int fe_1, .ref (h 8), .ref (h 9), .ref (h 10), .ref (h 11), .ref (h 12), .ref (h 13), .ref (h 14), .ref (h 15), .int ca_1, .long ga_1, .int wh_1, .int tm_1, .ref (h 20), .ref (h 21), .int wm_1, .ref (h 23), .ref (h 24), .int ac_1, .ref (h 26), .ref (h 27), .int th_1, .int (-1)])))) H locs := hH
  obtain ⟨f_2, ef_2⟩ : ∃ zz_ : mF, zz_ = va_up f (h 0) (some (.inr (6, [.int (nI n), .ref (h 1), .int he_1, .ref (h 3), .ref (h 4), .ref (h 5), .ref (h 6), .int fe_1, .ref (h 8), .ref (h 9), .ref (h 10), .ref (h 11), .ref (h 12), .ref (h 13), .ref (h 14), .ref (h 15), .int ca_1, .long ga_1, .int wh_1, .int tm_1, .ref (h 20), .ref (h 21), .int wm_1, .ref (h 23), .ref (h 24), .int ac_1, .ref (h 26), .ref (h 27), .int th_1, .int (-1)]))) := ⟨_, rfl⟩
  rw [← ef_2] at hH
  have F_3 : f_2 (h 0) = some (.inr (6, [.int (nI n), .ref (h 1), .int he_1, .ref (h 3), .ref (h 4), .ref (h 5), .ref (h 6), .int fe_1, .ref (h 8), .ref (h 9), .ref (h 10), .ref (h 11), .ref (h 12), .ref (h 13), .ref (h 14), .ref (h 15), .int ca_1, .long ga_1, .int wh_1, .int tm_1, .ref (h 20), .ref (h 21), .int wm_1, .ref (h 23), .ref (h 24), .int ac_1, .ref (h 26), .ref (h 27), .int th_1, .int (-1)])) := by rw [ef_2]; exact va_up_self _ _ _
  have hI : IM G h n T z A f_2 := hI.obj F_1 ef_2 rfl ⟨_, _, _, _, _, _, _, _, _, _, rfl, by have := True.intro; have := True.intro; have := True.intro; have := True.intro; omega, by have := True.intro; have := True.intro; have := True.intro; have := True.intro; omega, by have := True.intro; have := True.intro; have := True.intro; have := True.intro; omega, by have := True.intro; have := True.intro; have := True.intro; have := True.intro; omega, by have := True.intro; have := True.intro; have := True.intro; have := True.intro; omega, by have := True.intro; have := True.intro; have := True.intro; have := True.intro; omega, by have := True.intro; have := True.intro; have := True.intro; have := True.intro; omega, by have := True.intro; have := True.intro; have := True.intro; have := True.intro; omega⟩
  have hfr := hfr.up 0 (by decide) ef_2
  have hkp := hkp.obj F_1 F_3 rfl rfl rfl
  refine lv_aload_n hx hb dX6_view_5 rfl (lv_at hl 0 rfl) ?_
  refine lv_iload_n hx hb dX6_view_6 rfl (lv_at hl 1 rfl) ?_
  refine m_goi hH (va_runV (As := [.int o]) (rest := []) ⟨hx, hb, hml, hown, hts⟩ (c_X6_isObject l G h n T z A f_2 hI o) (cwV 1 hts gX6_view_X6_isObject rfl rfl rfl (by decide +kernel) ⟨Nat.le_of_ble_eq_true rfl, Nat.le_of_ble_eq_true rfl⟩) (m_preV (ci := 6) hC hH F_3 rfl) rfl rfl hl.1 rfl (lv_room (Nat.le_of_ble_eq_true rfl)) dX6_view_7 ⟨Nat.le_of_ble_eq_true rfl, Nat.le_of_ble_eq_true rfl⟩) (fun r_4 rho_6 f_5 H locs hw hH => ?_)
  obtain ⟨hu, hr_4⟩ := hw
  have hu : f_5 = f_2 := hu
  rw [hu] at hH
  refine lv_if_eq (tgt := 60) hx hb dX6_view_10 (by decide) (fun c_7 => ?_) (fun c_7 => ?_)
  · skip
    have ic_7 : (r_4.toInt : Int) = 0 := ic_eq rfl kI_0 c_7
    refine lv_ldc2 (v := (-1)) hx hb hown (hts (.constantLong RX6 217 (-1)) (by decide +kernel)) dX6_view_60 ?_
    exact m_lret (v := (-1)) hx hb hr hlk hC hH (fun _ => (0, 0)) ⟨hI, hfr⟩ (Nat.le_of_ble_eq_true rfl) (Nat.le_of_ble_eq_true rfl) dX6_view_63
  · skip
    have ic_7 : (r_4.toInt : Int) ≠ 0 := ic_ne rfl kI_0 c_7
    refine lv_iload_n hx hb dX6_view_13 rfl (lv_at hl 2 rfl) ?_
    refine lv_i2l hx hb dX6_view_14 rfl ?_
    refine lv_topl (fun y_8 ey_8 => ?_)
    have iy_8 : y_8.toInt = j.toInt := lc_i2l ey_8 rfl
    have gy_8 := ic_rng j
    refine lv_lconst (v := 0) hx hb dX6_view_15 (by decide) ?_
    refine lv_aload_n hx hb dX6_view_16 rfl (lv_at hl 0 rfl) ?_
    refine m_get (ci := 6) (v := .ref (h 1)) (C := RX6) (T := TX6) (N := 30) hx hb hC hH hts in_X6_view_X6 hown F_3 rfl 1 (by decide) (hts (.fieldLink RX6 7 "LazyStateModel" "types" "[I") (by decide +kernel)) rfl dX6_view_17 ?_
    refine lv_iload_n hx hb dX6_view_20 rfl (lv_at hl 1 rfl) ?_
    obtain ⟨g_9, hg_9, hp_9⟩ : okI G 0 24 (fun g => ∀ o, o < n → g o = T o) (f_2 (h 1)) := hI.1 1 (by decide)
    refine m_iald hx hb hC hH hg_9 (vp_in_iff.mpr ⟨by omega, by omega⟩) dX6_view_21 ?_
    refine lv_topi (fun x_10 ex_10 => ?_)
    refine m_goi hH (va_runS (As := [.int x_10]) (rest := [.long 0, .long y_8]) ⟨hx, hb, hml, hown, hts⟩ (c_X6_fieldsOf l G f_2 x_10) (va_cwS 1 hts gX6_view_X6_fieldsOf rfl rfl rfl (by decide +kernel) ⟨Nat.le_of_ble_eq_true rfl, Nat.le_of_ble_eq_true rfl⟩) (m_preS hC hH) rfl rfl hl.1 rfl (lv_room (Nat.le_of_ble_eq_true rfl)) dX6_view_22 ⟨Nat.le_of_ble_eq_true rfl, Nat.le_of_ble_eq_true rfl⟩) (fun r_11 rho_13 f_12 H locs hw hH => ?_)
    obtain ⟨hu, hr_11⟩ := hw
    have hu : f_12 = f_2 := hu
    rw [hu] at hH
    have br_11 : 3 ≤ r_11.toInt ∧ r_11.toInt ≤ 6 := by rw [hr_11]; unfold fldM; (repeat' split) <;> omega
    refine lv_iconst (v := 1) hx hb dX6_view_25 (by decide) ?_
    refine lv_isub hx hb dX6_view_26 ?_
    refine lv_topi (fun x_14 ex_14 => ?_)
    have ix_14 : x_14.toInt = r_11.toInt - 1 := ic_sub ex_14 rfl kI_1 (by omega) (by omega)
    refine lv_i2l hx hb dX6_view_27 rfl ?_
    refine lv_topl (fun y_15 ey_15 => ?_)
    have iy_15 : y_15.toInt = x_14.toInt := lc_i2l ey_15 rfl
    have gy_15 := ic_rng x_14
    refine m_goi hH (va_runS (As := [.long y_8, .long 0, .long y_15]) (rest := []) ⟨hx, hb, hml, hown, hts⟩ (c_X6_in l G f_2 y_8 0 y_15) (va_cwS 3 hts gX6_view_X6_in rfl rfl rfl (by decide +kernel) ⟨Nat.le_of_ble_eq_true rfl, Nat.le_of_ble_eq_true rfl⟩) (m_preS hC hH) rfl rfl hl.1 rfl (lv_room (Nat.le_of_ble_eq_true rfl)) dX6_view_28 ⟨Nat.le_of_ble_eq_true rfl, Nat.le_of_ble_eq_true rfl⟩) (fun r_16 rho_18 f_17 H locs hw hH => ?_)
    obtain ⟨hu, hr_16⟩ := hw
    have hu : f_17 = f_2 := hu
    rw [hu] at hH
    have hr_16 : (r_16.toInt = 1 ∧ 0 ≤ y_8.toInt ∧ y_8.toInt ≤ y_15.toInt) ∨ (r_16.toInt = 0 ∧ (y_8.toInt < 0 ∨ y_15.toInt < y_8.toInt)) := by have q0 := (rfl : y_8.toInt = _); have q1 := kJ_0; have q2 := (rfl : y_15.toInt = _); omega
    refine lv_if_eq (tgt := 60) hx hb dX6_view_31 (by decide) (fun c_19 => ?_) (fun c_19 => ?_)
    · skip
      have ic_19 : (r_16.toInt : Int) = 0 := ic_eq rfl kI_0 c_19
      refine lv_ldc2 (v := (-1)) hx hb hown (hts (.constantLong RX6 217 (-1)) (by decide +kernel)) dX6_view_60 ?_
      exact m_lret (v := (-1)) hx hb hr hlk hC hH (fun _ => (0, 0)) ⟨hI, hfr⟩ (Nat.le_of_ble_eq_true rfl) (Nat.le_of_ble_eq_true rfl) dX6_view_63
    · skip
      have ic_19 : (r_16.toInt : Int) ≠ 0 := ic_ne rfl kI_0 c_19
      refine lv_iload_n hx hb dX6_view_34 rfl (lv_at hl 3 rfl) ?_
      refine lv_i2l hx hb dX6_view_35 rfl ?_
      refine lv_topl (fun y_20 ey_20 => ?_)
      have iy_20 : y_20.toInt = a.toInt := lc_i2l ey_20 rfl
      have gy_20 := ic_rng a
      refine lv_lconst (v := 0) hx hb dX6_view_36 (by decide) ?_
      refine lv_aload_n hx hb dX6_view_37 rfl (lv_at hl 0 rfl) ?_
      refine m_get (ci := 6) (v := .int he_1) (C := RX6) (T := TX6) (N := 30) hx hb hC hH hts in_X6_view_X6 hown F_3 rfl 2 (by decide) (hts (.fieldLink RX6 104 "LazyStateModel" "height" "I") (by decide +kernel)) rfl dX6_view_38 ?_
      refine lv_i2l hx hb dX6_view_41 rfl ?_
      refine lv_topl (fun y_21 ey_21 => ?_)
      have iy_21 : y_21.toInt = he_1.toInt := lc_i2l ey_21 rfl
      have gy_21 := ic_rng he_1
      refine m_goi hH (va_runS (As := [.long y_20, .long 0, .long y_21]) (rest := []) ⟨hx, hb, hml, hown, hts⟩ (c_X6_in l G f_2 y_20 0 y_21) (va_cwS 3 hts gX6_view_X6_in rfl rfl rfl (by decide +kernel) ⟨Nat.le_of_ble_eq_true rfl, Nat.le_of_ble_eq_true rfl⟩) (m_preS hC hH) rfl rfl hl.1 rfl (lv_room (Nat.le_of_ble_eq_true rfl)) dX6_view_42 ⟨Nat.le_of_ble_eq_true rfl, Nat.le_of_ble_eq_true rfl⟩) (fun r_22 rho_24 f_23 H locs hw hH => ?_)
      obtain ⟨hu, hr_22⟩ := hw
      have hu : f_23 = f_2 := hu
      rw [hu] at hH
      have hr_22 : (r_22.toInt = 1 ∧ 0 ≤ y_20.toInt ∧ y_20.toInt ≤ y_21.toInt) ∨ (r_22.toInt = 0 ∧ (y_20.toInt < 0 ∨ y_21.toInt < y_20.toInt)) := by have q0 := (rfl : y_20.toInt = _); have q1 := kJ_0; have q2 := (rfl : y_21.toInt = _); omega
      refine lv_if_eq (tgt := 60) hx hb dX6_view_45 (by decide) (fun c_25 => ?_) (fun c_25 => ?_)
      · skip
        have ic_25 : (r_22.toInt : Int) = 0 := ic_eq rfl kI_0 c_25
        refine lv_ldc2 (v := (-1)) hx hb hown (hts (.constantLong RX6 217 (-1)) (by decide +kernel)) dX6_view_60 ?_
        exact m_lret (v := (-1)) hx hb hr hlk hC hH (fun _ => (0, 0)) ⟨hI, hfr⟩ (Nat.le_of_ble_eq_true rfl) (Nat.le_of_ble_eq_true rfl) dX6_view_63
      · skip
        have ic_25 : (r_22.toInt : Int) ≠ 0 := ic_ne rfl kI_0 c_25
        refine lv_iload hx hb dX6_view_48 (lv_at hl 4 rfl) ?_
        refine lv_if_ge (tgt := 64) hx hb dX6_view_50 (by decide) (fun c_26 => ?_) (fun c_26 => ?_)
        · skip
          have ic_26 : (0 : Int) ≤ i.toInt := ic_le kI_0 rfl c_26
          refine lv_aload_n hx hb dX6_view_64 rfl (lv_at hl 0 rfl) ?_
          refine m_get (ci := 6) (v := .ref (h 1)) (C := RX6) (T := TX6) (N := 30) hx hb hC hH hts in_X6_view_X6 hown F_3 rfl 1 (by decide) (hts (.fieldLink RX6 7 "LazyStateModel" "types" "[I") (by decide +kernel)) rfl dX6_view_65 ?_
          refine lv_iload_n hx hb dX6_view_68 rfl (lv_at hl 1 rfl) ?_
          refine m_iald hx hb hC hH hg_9 (vp_in_iff.mpr ⟨by omega, by omega⟩) dX6_view_69 ?_
          refine lv_topi (fun x_27 ex_27 => ?_)
          refine lv_iload_n hx hb dX6_view_70 rfl (lv_at hl 2 rfl) ?_
          refine m_goi hH (va_runS (As := [.int x_27, .int j]) (rest := []) ⟨hx, hb, hml, hown, hts⟩ (c_X6_sortOf l G f_2 x_27 j) (va_cwS 2 hts gX6_view_X6_sortOf rfl rfl rfl (by decide +kernel) ⟨Nat.le_of_ble_eq_true rfl, Nat.le_of_ble_eq_true rfl⟩) (m_preS hC hH) rfl rfl hl.1 rfl (lv_room (Nat.le_of_ble_eq_true rfl)) dX6_view_71 ⟨Nat.le_of_ble_eq_true rfl, Nat.le_of_ble_eq_true rfl⟩) (fun r_28 rho_30 f_29 H locs hw hH => ?_)
          obtain ⟨hu, hr_28⟩ := hw
          have hu : f_29 = f_2 := hu
          rw [hu] at hH
          refine lv_istore (lv' := [(5, .int r_28), (0, .ref (h 0)), (1, .int o), (2, .int j), (3, .int a), (4, .int i)]) hx hb dX6_view_74 hl (by decide) rfl (fun ls hl => ?_)
          refine lv_sipush (v := 192) hx hb dX6_view_76 (by decide) ?_
          refine lv_iload_n hx hb dX6_view_79 rfl (lv_at hl 4 rfl) ?_
          refine lv_imul hx hb dX6_view_80 ?_
          refine lv_topi (fun x_31 ex_31 => ?_)
          have ix_31 : x_31.toInt = 192 * a.toInt := ic_mul ex_31 kI_192 rfl (by omega) (by omega)
          refine lv_bipush (v := 8) hx hb dX6_view_81 (by decide) ?_
          refine lv_iload_n hx hb dX6_view_83 rfl (lv_at hl 2 rfl) ?_
          refine lv_imul hx hb dX6_view_84 ?_
          refine lv_topi (fun x_32 ex_32 => ?_)
          have ix_32 : x_32.toInt = 8 * o.toInt := ic_mul ex_32 kI_8 rfl (by omega) (by omega)
          refine lv_iadd hx hb dX6_view_85 ?_
          refine lv_topi (fun x_33 ex_33 => ?_)
          have ix_33 : x_33.toInt = x_31.toInt + x_32.toInt := ic_add ex_33 rfl rfl (by omega) (by omega)
          refine lv_iload_n hx hb dX6_view_86 rfl (lv_at hl 3 rfl) ?_
          refine lv_iadd hx hb dX6_view_87 ?_
          refine lv_topi (fun x_34 ex_34 => ?_)
          have ix_34 : x_34.toInt = x_33.toInt + j.toInt := ic_add ex_34 rfl rfl (by omega) (by omega)
          refine lv_istore (lv' := [(6, .int x_34), (5, .int r_28), (0, .ref (h 0)), (1, .int o), (2, .int j), (3, .int a), (4, .int i)]) hx hb dX6_view_88 hl (by decide) rfl (fun ls hl => ?_)
          refine lv_iload hx hb dX6_view_90 (lv_at hl 6 rfl) ?_
          refine lv_if_lt (tgt := 117) hx hb dX6_view_92 (by decide) (fun c_35 => ?_) (fun c_35 => ?_)
          · skip
            have ic_35 : (i.toInt : Int) < 0 := ic_lt rfl kI_0 c_35
            refine lv_aload_n hx hb dX6_view_117 rfl (lv_at hl 2 rfl) ?_
            refine lv_iconst (v := 0) hx hb dX6_view_118 (by decide) ?_
            refine m_put (ci := 6) (v := .int 0) (C := RX6) (T := TX6) (N := 30) hx hb hC hH hts in_X6_view_X6 tyX6 tyX6_ok nmX6 hown F_3 rfl 29 (by decide) (hts (.fieldLink RX6 214 "LazyStateModel" "status" "I") (by decide +kernel)) rfl rfl rfl (Nat.le_of_ble_eq_true rfl) dX6_view_119 (fun H locs hH => ?_)
            have hH : mH G s (va_up f_2 (h 0) (some (.inr (6, [.int (nI n), .ref (h 1), .int he_1, .ref (h 3), .ref (h 4), .ref (h 5), .ref (h 6), .int fe_1, .ref (h 8), .ref (h 9), .ref (h 10), .ref (h 11), .ref (h 12), .ref (h 13), .ref (h 14), .ref (h 15), .int ca_1, .long ga_1, .int wh_1, .int tm_1, .ref (h 20), .ref (h 21), .int wm_1, .ref (h 23), .ref (h 24), .int ac_1, .ref (h 26), .ref (h 27), .int th_1, .int 0])))) H locs := hH
            obtain ⟨f_36, ef_36⟩ : ∃ zz_ : mF, zz_ = va_up f_2 (h 0) (some (.inr (6, [.int (nI n), .ref (h 1), .int he_1, .ref (h 3), .ref (h 4), .ref (h 5), .ref (h 6), .int fe_1, .ref (h 8), .ref (h 9), .ref (h 10), .ref (h 11), .ref (h 12), .ref (h 13), .ref (h 14), .ref (h 15), .int ca_1, .long ga_1, .int wh_1, .int tm_1, .ref (h 20), .ref (h 21), .int wm_1, .ref (h 23), .ref (h 24), .int ac_1, .ref (h 26), .ref (h 27), .int th_1, .int 0]))) := ⟨_, rfl⟩
            rw [← ef_36] at hH
            have F_37 : f_36 (h 0) = some (.inr (6, [.int (nI n), .ref (h 1), .int he_1, .ref (h 3), .ref (h 4), .ref (h 5), .ref (h 6), .int fe_1, .ref (h 8), .ref (h 9), .ref (h 10), .ref (h 11), .ref (h 12), .ref (h 13), .ref (h 14), .ref (h 15), .int ca_1, .long ga_1, .int wh_1, .int tm_1, .ref (h 20), .ref (h 21), .int wm_1, .ref (h 23), .ref (h 24), .int ac_1, .ref (h 26), .ref (h 27), .int th_1, .int 0])) := by rw [ef_36]; exact va_up_self _ _ _
            have hI : IM G h n T z A f_36 := hI.obj F_3 ef_36 rfl ⟨_, _, _, _, _, _, _, _, _, _, rfl, by have := True.intro; have := True.intro; have := True.intro; have := True.intro; omega, by have := True.intro; have := True.intro; have := True.intro; have := True.intro; omega, by have := True.intro; have := True.intro; have := True.intro; have := True.intro; omega, by have := True.intro; have := True.intro; have := True.intro; have := True.intro; omega, by have := True.intro; have := True.intro; have := True.intro; have := True.intro; omega, by have := True.intro; have := True.intro; have := True.intro; have := True.intro; omega, by have := True.intro; have := True.intro; have := True.intro; have := True.intro; omega, by have := True.intro; have := True.intro; have := True.intro; have := True.intro; omega⟩
            have hfr := hfr.up 0 (by decide) ef_36
            have hkp := hkp.obj F_3 F_37 rfl rfl rfl
            have hg_38 := upk hg_9 ef_36 (neM hj (by decide) (by decide) (by decide))
            refine lv_iload hx hb dX6_view_122 (lv_at hl 6 rfl) ?_
            refine lv_if_lt (tgt := 144) hx hb dX6_view_124 (by decide) (fun c_39 => ?_) (fun c_39 => ?_)
            · skip
              have ic_39 : (i.toInt : Int) < 0 := ic_lt rfl kI_0 c_39
              refine lv_iload hx hb dX6_view_144 (lv_at hl 1 rfl) ?_
              refine lv_iconst (v := 2) hx hb dX6_view_146 (by decide) ?_
              refine lv_icmp_ne (tgt := 161) hx hb dX6_view_147 (by decide) (fun c_40 => ?_) (fun c_40 => ?_)
              · skip
                have ic_40 : (r_28.toInt : Int) ≠ 2 := ic_ne rfl kI_2 c_40
                refine lv_aload_n hx hb dX6_view_161 rfl (lv_at hl 2 rfl) ?_
                refine m_get (ci := 6) (v := .ref (h 3)) (C := RX6) (T := TX6) (N := 30) hx hb hC hH hts in_X6_view_X6 hown F_37 rfl 3 (by decide) (hts (.fieldLink RX6 13 "LazyStateModel" "numbers" "[J") (by decide +kernel)) rfl dX6_view_162 ?_
                refine lv_iload hx hb dX6_view_165 (lv_at hl 0 rfl) ?_
                obtain ⟨g_41, hg_41, hp_41⟩ : okJ G 8064 (pNu n T) (f_36 (h 3)) := hI.1 3 (by decide)
                refine m_lald hx hb hC hH hg_41 (vp_in_iff.mpr ⟨by omega, by omega⟩) dX6_view_167 ?_
                refine lv_topl (fun y_42 ey_42 => ?_)
                exact m_lret (v := y_42) hx hb hr hlk hC hH (fun _ => (0, 0)) ⟨hI, hfr⟩ (Nat.le_of_ble_eq_true rfl) (Nat.le_of_ble_eq_true rfl) dX6_view_168
              · skip
                have ic_40 : (r_28.toInt : Int) = 2 := ic_eq rfl kI_2 c_40
                refine lv_aload_n hx hb dX6_view_150 rfl (lv_at hl 2 rfl) ?_
                refine m_get (ci := 6) (v := .ref (h 4)) (C := RX6) (T := TX6) (N := 30) hx hb hC hH hts in_X6_view_X6 hown F_37 rfl 4 (by decide) (hts (.fieldLink RX6 17 "LazyStateModel" "sizes" "[I") (by decide +kernel)) rfl dX6_view_151 ?_
                refine lv_iload hx hb dX6_view_154 (lv_at hl 0 rfl) ?_
                obtain ⟨g_43, hg_43, hp_43⟩ : okI G 0 8064 (fun g => ∀ L, L < 8064 → (g L).toInt ≤ 8) (f_36 (h 4)) := hI.1 4 (by decide)
                refine m_iald hx hb hC hH hg_43 (vp_in_iff.mpr ⟨by omega, by omega⟩) dX6_view_156 ?_
                refine lv_topi (fun x_44 ex_44 => ?_)
                have qx_44 := hp_43 (x_34.toNatClampNeg) (ic_cl rfl (by omega) (by omega))
                rw [← ex_44] at qx_44
                refine lv_i2l hx hb dX6_view_157 rfl ?_
                refine lv_topl (fun y_45 ey_45 => ?_)
                have iy_45 : y_45.toInt = x_44.toInt := lc_i2l ey_45 rfl
                have gy_45 := ic_rng x_44
                refine lv_goto (tgt := 168) hx hb dX6_view_158 (by decide) ?_
                exact m_lret (v := y_45) hx hb hr hlk hC hH (fun _ => (0, 0)) ⟨hI, hfr⟩ (Nat.le_of_ble_eq_true rfl) (Nat.le_of_ble_eq_true rfl) dX6_view_168
            · skip
              have ic_39 : (i.toInt : Int) ≥ 0 := ic_nlt rfl kI_0 c_39
              refine lv_aload_n hx hb dX6_view_127 rfl (lv_at hl 2 rfl) ?_
              refine m_get (ci := 6) (v := .ref (h 5)) (C := RX6) (T := TX6) (N := 30) hx hb hC hH hts in_X6_view_X6 hown F_37 rfl 5 (by decide) (hts (.fieldLink RX6 21 "LazyStateModel" "items" "[I") (by decide +kernel)) rfl dX6_view_128 ?_
              refine lv_bipush (v := 8) hx hb dX6_view_131 (by decide) ?_
              refine lv_iload hx hb dX6_view_133 (lv_at hl 0 rfl) ?_
              refine lv_imul hx hb dX6_view_135 ?_
              refine lv_topi (fun x_46 ex_46 => ?_)
              have ix_46 : x_46.toInt = 8 * x_34.toInt := ic_mul ex_46 kI_8 rfl (by omega) (by omega)
              refine lv_iload hx hb dX6_view_136 (lv_at hl 6 rfl) ?_
              refine lv_iadd hx hb dX6_view_138 ?_
              refine lv_topi (fun x_47 ex_47 => ?_)
              have ix_47 : x_47.toInt = x_46.toInt + i.toInt := ic_add ex_47 rfl rfl (by omega) (by omega)
              obtain ⟨g_48, hg_48, hp_48⟩ : okI G 0 64512 (fun _ => True) (f_36 (h 5)) := hI.1 5 (by decide)
              refine m_iald hx hb hC hH hg_48 (vp_in_iff.mpr ⟨by omega, by omega⟩) dX6_view_139 ?_
              refine lv_topi (fun x_49 ex_49 => ?_)
              refine lv_i2l hx hb dX6_view_140 rfl ?_
              refine lv_topl (fun y_50 ey_50 => ?_)
              have iy_50 : y_50.toInt = x_49.toInt := lc_i2l ey_50 rfl
              have gy_50 := ic_rng x_49
              refine lv_goto (tgt := 168) hx hb dX6_view_141 (by decide) ?_
              exact m_lret (v := y_50) hx hb hr hlk hC hH (fun _ => (0, 0)) ⟨hI, hfr⟩ (Nat.le_of_ble_eq_true rfl) (Nat.le_of_ble_eq_true rfl) dX6_view_168
          · skip
            have ic_35 : (i.toInt : Int) ≥ 0 := ic_nlt rfl kI_0 c_35
            refine lv_iload hx hb dX6_view_95 (lv_at hl 1 rfl) ?_
            refine lv_iconst (v := 2) hx hb dX6_view_97 (by decide) ?_
            refine lv_icmp_ne (tgt := 113) hx hb dX6_view_98 (by decide) (fun c_51 => ?_) (fun c_51 => ?_)
            · skip
              have ic_51 : (r_28.toInt : Int) ≠ 2 := ic_ne rfl kI_2 c_51
              refine lv_ldc2 (v := (-1)) hx hb hown (hts (.constantLong RX6 217 (-1)) (by decide +kernel)) dX6_view_113 ?_
              exact m_lret (v := (-1)) hx hb hr hlk hC hH (fun _ => (0, 0)) ⟨hI, hfr⟩ (Nat.le_of_ble_eq_true rfl) (Nat.le_of_ble_eq_true rfl) dX6_view_116
            · skip
              have ic_51 : (r_28.toInt : Int) = 2 := ic_eq rfl kI_2 c_51
              refine lv_iload hx hb dX6_view_101 (lv_at hl 6 rfl) ?_
              refine lv_aload_n hx hb dX6_view_103 rfl (lv_at hl 2 rfl) ?_
              refine m_get (ci := 6) (v := .ref (h 4)) (C := RX6) (T := TX6) (N := 30) hx hb hC hH hts in_X6_view_X6 hown F_3 rfl 4 (by decide) (hts (.fieldLink RX6 17 "LazyStateModel" "sizes" "[I") (by decide +kernel)) rfl dX6_view_104 ?_
              refine lv_iload hx hb dX6_view_107 (lv_at hl 0 rfl) ?_
              obtain ⟨g_52, hg_52, hp_52⟩ : okI G 0 8064 (fun g => ∀ L, L < 8064 → (g L).toInt ≤ 8) (f_2 (h 4)) := hI.1 4 (by decide)
              refine m_iald hx hb hC hH hg_52 (vp_in_iff.mpr ⟨by omega, by omega⟩) dX6_view_109 ?_
              refine lv_topi (fun x_53 ex_53 => ?_)
              have qx_53 := hp_52 (x_34.toNatClampNeg) (ic_cl rfl (by omega) (by omega))
              rw [← ex_53] at qx_53
              refine lv_icmp_lt (tgt := 117) hx hb dX6_view_110 (by decide) (fun c_54 => ?_) (fun c_54 => ?_)
              · skip
                have ic_54 : (i.toInt : Int) < x_53.toInt := ic_lt rfl rfl c_54
                refine lv_aload_n hx hb dX6_view_117 rfl (lv_at hl 2 rfl) ?_
                refine lv_iconst (v := 0) hx hb dX6_view_118 (by decide) ?_
                refine m_put (ci := 6) (v := .int 0) (C := RX6) (T := TX6) (N := 30) hx hb hC hH hts in_X6_view_X6 tyX6 tyX6_ok nmX6 hown F_3 rfl 29 (by decide) (hts (.fieldLink RX6 214 "LazyStateModel" "status" "I") (by decide +kernel)) rfl rfl rfl (Nat.le_of_ble_eq_true rfl) dX6_view_119 (fun H locs hH => ?_)
                have hH : mH G s (va_up f_2 (h 0) (some (.inr (6, [.int (nI n), .ref (h 1), .int he_1, .ref (h 3), .ref (h 4), .ref (h 5), .ref (h 6), .int fe_1, .ref (h 8), .ref (h 9), .ref (h 10), .ref (h 11), .ref (h 12), .ref (h 13), .ref (h 14), .ref (h 15), .int ca_1, .long ga_1, .int wh_1, .int tm_1, .ref (h 20), .ref (h 21), .int wm_1, .ref (h 23), .ref (h 24), .int ac_1, .ref (h 26), .ref (h 27), .int th_1, .int 0])))) H locs := hH
                obtain ⟨f_55, ef_55⟩ : ∃ zz_ : mF, zz_ = va_up f_2 (h 0) (some (.inr (6, [.int (nI n), .ref (h 1), .int he_1, .ref (h 3), .ref (h 4), .ref (h 5), .ref (h 6), .int fe_1, .ref (h 8), .ref (h 9), .ref (h 10), .ref (h 11), .ref (h 12), .ref (h 13), .ref (h 14), .ref (h 15), .int ca_1, .long ga_1, .int wh_1, .int tm_1, .ref (h 20), .ref (h 21), .int wm_1, .ref (h 23), .ref (h 24), .int ac_1, .ref (h 26), .ref (h 27), .int th_1, .int 0]))) := ⟨_, rfl⟩
                rw [← ef_55] at hH
                have F_56 : f_55 (h 0) = some (.inr (6, [.int (nI n), .ref (h 1), .int he_1, .ref (h 3), .ref (h 4), .ref (h 5), .ref (h 6), .int fe_1, .ref (h 8), .ref (h 9), .ref (h 10), .ref (h 11), .ref (h 12), .ref (h 13), .ref (h 14), .ref (h 15), .int ca_1, .long ga_1, .int wh_1, .int tm_1, .ref (h 20), .ref (h 21), .int wm_1, .ref (h 23), .ref (h 24), .int ac_1, .ref (h 26), .ref (h 27), .int th_1, .int 0])) := by rw [ef_55]; exact va_up_self _ _ _
                have hI : IM G h n T z A f_55 := hI.obj F_3 ef_55 rfl ⟨_, _, _, _, _, _, _, _, _, _, rfl, by have := True.intro; have := True.intro; have := True.intro; have := True.intro; omega, by have := True.intro; have := True.intro; have := True.intro; have := True.intro; omega, by have := True.intro; have := True.intro; have := True.intro; have := True.intro; omega, by have := True.intro; have := True.intro; have := True.intro; have := True.intro; omega, by have := True.intro; have := True.intro; have := True.intro; have := True.intro; omega, by have := True.intro; have := True.intro; have := True.intro; have := True.intro; omega, by have := True.intro; have := True.intro; have := True.intro; have := True.intro; omega, by have := True.intro; have := True.intro; have := True.intro; have := True.intro; omega⟩
                have hfr := hfr.up 0 (by decide) ef_55
                have hkp := hkp.obj F_3 F_56 rfl rfl rfl
                have hg_57 := upk hg_9 ef_55 (neM hj (by decide) (by decide) (by decide))
                have hg_58 := upk hg_52 ef_55 (neM hj (by decide) (by decide) (by decide))
                refine lv_iload hx hb dX6_view_122 (lv_at hl 6 rfl) ?_
                refine lv_if_lt (tgt := 144) hx hb dX6_view_124 (by decide) (fun c_59 => ?_) (fun c_59 => ?_)
                · skip
                  have ic_59 : (i.toInt : Int) < 0 := ic_lt rfl kI_0 c_59
                  refine lv_iload hx hb dX6_view_144 (lv_at hl 1 rfl) ?_
                  refine lv_iconst (v := 2) hx hb dX6_view_146 (by decide) ?_
                  refine lv_icmp_ne (tgt := 161) hx hb dX6_view_147 (by decide) (fun c_60 => ?_) (fun c_60 => ?_)
                  · skip
                    have ic_60 : (r_28.toInt : Int) ≠ 2 := ic_ne rfl kI_2 c_60
                    refine lv_aload_n hx hb dX6_view_161 rfl (lv_at hl 2 rfl) ?_
                    refine m_get (ci := 6) (v := .ref (h 3)) (C := RX6) (T := TX6) (N := 30) hx hb hC hH hts in_X6_view_X6 hown F_56 rfl 3 (by decide) (hts (.fieldLink RX6 13 "LazyStateModel" "numbers" "[J") (by decide +kernel)) rfl dX6_view_162 ?_
                    refine lv_iload hx hb dX6_view_165 (lv_at hl 0 rfl) ?_
                    obtain ⟨g_61, hg_61, hp_61⟩ : okJ G 8064 (pNu n T) (f_55 (h 3)) := hI.1 3 (by decide)
                    refine m_lald hx hb hC hH hg_61 (vp_in_iff.mpr ⟨by omega, by omega⟩) dX6_view_167 ?_
                    refine lv_topl (fun y_62 ey_62 => ?_)
                    exact m_lret (v := y_62) hx hb hr hlk hC hH (fun _ => (0, 0)) ⟨hI, hfr⟩ (Nat.le_of_ble_eq_true rfl) (Nat.le_of_ble_eq_true rfl) dX6_view_168
                  · skip
                    have ic_60 : (r_28.toInt : Int) = 2 := ic_eq rfl kI_2 c_60
                    refine lv_aload_n hx hb dX6_view_150 rfl (lv_at hl 2 rfl) ?_
                    refine m_get (ci := 6) (v := .ref (h 4)) (C := RX6) (T := TX6) (N := 30) hx hb hC hH hts in_X6_view_X6 hown F_56 rfl 4 (by decide) (hts (.fieldLink RX6 17 "LazyStateModel" "sizes" "[I") (by decide +kernel)) rfl dX6_view_151 ?_
                    refine lv_iload hx hb dX6_view_154 (lv_at hl 0 rfl) ?_
                    refine m_iald hx hb hC hH hg_58 (vp_in_iff.mpr ⟨by omega, by omega⟩) dX6_view_156 ?_
                    refine lv_topi (fun x_63 ex_63 => ?_)
                    have qx_63 := hp_52 (x_34.toNatClampNeg) (ic_cl rfl (by omega) (by omega))
                    rw [← ex_63] at qx_63
                    refine lv_i2l hx hb dX6_view_157 rfl ?_
                    refine lv_topl (fun y_64 ey_64 => ?_)
                    have iy_64 : y_64.toInt = x_63.toInt := lc_i2l ey_64 rfl
                    have gy_64 := ic_rng x_63
                    refine lv_goto (tgt := 168) hx hb dX6_view_158 (by decide) ?_
                    exact m_lret (v := y_64) hx hb hr hlk hC hH (fun _ => (0, 0)) ⟨hI, hfr⟩ (Nat.le_of_ble_eq_true rfl) (Nat.le_of_ble_eq_true rfl) dX6_view_168
                · skip
                  have ic_59 : (i.toInt : Int) ≥ 0 := ic_nlt rfl kI_0 c_59
                  refine lv_aload_n hx hb dX6_view_127 rfl (lv_at hl 2 rfl) ?_
                  refine m_get (ci := 6) (v := .ref (h 5)) (C := RX6) (T := TX6) (N := 30) hx hb hC hH hts in_X6_view_X6 hown F_56 rfl 5 (by decide) (hts (.fieldLink RX6 21 "LazyStateModel" "items" "[I") (by decide +kernel)) rfl dX6_view_128 ?_
                  refine lv_bipush (v := 8) hx hb dX6_view_131 (by decide) ?_
                  refine lv_iload hx hb dX6_view_133 (lv_at hl 0 rfl) ?_
                  refine lv_imul hx hb dX6_view_135 ?_
                  refine lv_topi (fun x_65 ex_65 => ?_)
                  have ix_65 : x_65.toInt = 8 * x_34.toInt := ic_mul ex_65 kI_8 rfl (by omega) (by omega)
                  refine lv_iload hx hb dX6_view_136 (lv_at hl 6 rfl) ?_
                  refine lv_iadd hx hb dX6_view_138 ?_
                  refine lv_topi (fun x_66 ex_66 => ?_)
                  have ix_66 : x_66.toInt = x_65.toInt + i.toInt := ic_add ex_66 rfl rfl (by omega) (by omega)
                  obtain ⟨g_67, hg_67, hp_67⟩ : okI G 0 64512 (fun _ => True) (f_55 (h 5)) := hI.1 5 (by decide)
                  refine m_iald hx hb hC hH hg_67 (vp_in_iff.mpr ⟨by omega, by omega⟩) dX6_view_139 ?_
                  refine lv_topi (fun x_68 ex_68 => ?_)
                  refine lv_i2l hx hb dX6_view_140 rfl ?_
                  refine lv_topl (fun y_69 ey_69 => ?_)
                  have iy_69 : y_69.toInt = x_68.toInt := lc_i2l ey_69 rfl
                  have gy_69 := ic_rng x_68
                  refine lv_goto (tgt := 168) hx hb dX6_view_141 (by decide) ?_
                  exact m_lret (v := y_69) hx hb hr hlk hC hH (fun _ => (0, 0)) ⟨hI, hfr⟩ (Nat.le_of_ble_eq_true rfl) (Nat.le_of_ble_eq_true rfl) dX6_view_168
              · skip
                have ic_54 : (i.toInt : Int) ≥ x_53.toInt := ic_nlt rfl rfl c_54
                refine lv_ldc2 (v := (-1)) hx hb hown (hts (.constantLong RX6 217 (-1)) (by decide +kernel)) dX6_view_113 ?_
                exact m_lret (v := (-1)) hx hb hr hlk hC hH (fun _ => (0, 0)) ⟨hI, hfr⟩ (Nat.le_of_ble_eq_true rfl) (Nat.le_of_ble_eq_true rfl) dX6_view_116
        · skip
          have ic_26 : (0 : Int) > i.toInt := ic_nle kI_0 rfl c_26
          refine lv_iload hx hb dX6_view_53 (lv_at hl 4 rfl) ?_
          refine lv_bipush (v := (-3)) hx hb dX6_view_55 (by decide) ?_
          refine lv_icmp_eq (tgt := 64) hx hb dX6_view_57 (by decide) (fun c_70 => ?_) (fun c_70 => ?_)
          · skip
            have ic_70 : (i.toInt : Int) = (-3) := ic_eq rfl kI_m3 c_70
            refine lv_aload_n hx hb dX6_view_64 rfl (lv_at hl 0 rfl) ?_
            refine m_get (ci := 6) (v := .ref (h 1)) (C := RX6) (T := TX6) (N := 30) hx hb hC hH hts in_X6_view_X6 hown F_3 rfl 1 (by decide) (hts (.fieldLink RX6 7 "LazyStateModel" "types" "[I") (by decide +kernel)) rfl dX6_view_65 ?_
            refine lv_iload_n hx hb dX6_view_68 rfl (lv_at hl 1 rfl) ?_
            refine m_iald hx hb hC hH hg_9 (vp_in_iff.mpr ⟨by omega, by omega⟩) dX6_view_69 ?_
            refine lv_topi (fun x_71 ex_71 => ?_)
            refine lv_iload_n hx hb dX6_view_70 rfl (lv_at hl 2 rfl) ?_
            refine m_goi hH (va_runS (As := [.int x_71, .int j]) (rest := []) ⟨hx, hb, hml, hown, hts⟩ (c_X6_sortOf l G f_2 x_71 j) (va_cwS 2 hts gX6_view_X6_sortOf rfl rfl rfl (by decide +kernel) ⟨Nat.le_of_ble_eq_true rfl, Nat.le_of_ble_eq_true rfl⟩) (m_preS hC hH) rfl rfl hl.1 rfl (lv_room (Nat.le_of_ble_eq_true rfl)) dX6_view_71 ⟨Nat.le_of_ble_eq_true rfl, Nat.le_of_ble_eq_true rfl⟩) (fun r_72 rho_74 f_73 H locs hw hH => ?_)
            obtain ⟨hu, hr_72⟩ := hw
            have hu : f_73 = f_2 := hu
            rw [hu] at hH
            refine lv_istore (lv' := [(5, .int r_72), (0, .ref (h 0)), (1, .int o), (2, .int j), (3, .int a), (4, .int i)]) hx hb dX6_view_74 hl (by decide) rfl (fun ls hl => ?_)
            refine lv_sipush (v := 192) hx hb dX6_view_76 (by decide) ?_
            refine lv_iload_n hx hb dX6_view_79 rfl (lv_at hl 4 rfl) ?_
            refine lv_imul hx hb dX6_view_80 ?_
            refine lv_topi (fun x_75 ex_75 => ?_)
            have ix_75 : x_75.toInt = 192 * a.toInt := ic_mul ex_75 kI_192 rfl (by omega) (by omega)
            refine lv_bipush (v := 8) hx hb dX6_view_81 (by decide) ?_
            refine lv_iload_n hx hb dX6_view_83 rfl (lv_at hl 2 rfl) ?_
            refine lv_imul hx hb dX6_view_84 ?_
            refine lv_topi (fun x_76 ex_76 => ?_)
            have ix_76 : x_76.toInt = 8 * o.toInt := ic_mul ex_76 kI_8 rfl (by omega) (by omega)
            refine lv_iadd hx hb dX6_view_85 ?_
            refine lv_topi (fun x_77 ex_77 => ?_)
            have ix_77 : x_77.toInt = x_75.toInt + x_76.toInt := ic_add ex_77 rfl rfl (by omega) (by omega)
            refine lv_iload_n hx hb dX6_view_86 rfl (lv_at hl 3 rfl) ?_
            refine lv_iadd hx hb dX6_view_87 ?_
            refine lv_topi (fun x_78 ex_78 => ?_)
            have ix_78 : x_78.toInt = x_77.toInt + j.toInt := ic_add ex_78 rfl rfl (by omega) (by omega)
            refine lv_istore (lv' := [(6, .int x_78), (5, .int r_72), (0, .ref (h 0)), (1, .int o), (2, .int j), (3, .int a), (4, .int i)]) hx hb dX6_view_88 hl (by decide) rfl (fun ls hl => ?_)
            refine lv_iload hx hb dX6_view_90 (lv_at hl 6 rfl) ?_
            refine lv_if_lt (tgt := 117) hx hb dX6_view_92 (by decide) (fun c_79 => ?_) (fun c_79 => ?_)
            · skip
              have ic_79 : (i.toInt : Int) < 0 := ic_lt rfl kI_0 c_79
              refine lv_aload_n hx hb dX6_view_117 rfl (lv_at hl 2 rfl) ?_
              refine lv_iconst (v := 0) hx hb dX6_view_118 (by decide) ?_
              refine m_put (ci := 6) (v := .int 0) (C := RX6) (T := TX6) (N := 30) hx hb hC hH hts in_X6_view_X6 tyX6 tyX6_ok nmX6 hown F_3 rfl 29 (by decide) (hts (.fieldLink RX6 214 "LazyStateModel" "status" "I") (by decide +kernel)) rfl rfl rfl (Nat.le_of_ble_eq_true rfl) dX6_view_119 (fun H locs hH => ?_)
              have hH : mH G s (va_up f_2 (h 0) (some (.inr (6, [.int (nI n), .ref (h 1), .int he_1, .ref (h 3), .ref (h 4), .ref (h 5), .ref (h 6), .int fe_1, .ref (h 8), .ref (h 9), .ref (h 10), .ref (h 11), .ref (h 12), .ref (h 13), .ref (h 14), .ref (h 15), .int ca_1, .long ga_1, .int wh_1, .int tm_1, .ref (h 20), .ref (h 21), .int wm_1, .ref (h 23), .ref (h 24), .int ac_1, .ref (h 26), .ref (h 27), .int th_1, .int 0])))) H locs := hH
              obtain ⟨f_80, ef_80⟩ : ∃ zz_ : mF, zz_ = va_up f_2 (h 0) (some (.inr (6, [.int (nI n), .ref (h 1), .int he_1, .ref (h 3), .ref (h 4), .ref (h 5), .ref (h 6), .int fe_1, .ref (h 8), .ref (h 9), .ref (h 10), .ref (h 11), .ref (h 12), .ref (h 13), .ref (h 14), .ref (h 15), .int ca_1, .long ga_1, .int wh_1, .int tm_1, .ref (h 20), .ref (h 21), .int wm_1, .ref (h 23), .ref (h 24), .int ac_1, .ref (h 26), .ref (h 27), .int th_1, .int 0]))) := ⟨_, rfl⟩
              rw [← ef_80] at hH
              have F_81 : f_80 (h 0) = some (.inr (6, [.int (nI n), .ref (h 1), .int he_1, .ref (h 3), .ref (h 4), .ref (h 5), .ref (h 6), .int fe_1, .ref (h 8), .ref (h 9), .ref (h 10), .ref (h 11), .ref (h 12), .ref (h 13), .ref (h 14), .ref (h 15), .int ca_1, .long ga_1, .int wh_1, .int tm_1, .ref (h 20), .ref (h 21), .int wm_1, .ref (h 23), .ref (h 24), .int ac_1, .ref (h 26), .ref (h 27), .int th_1, .int 0])) := by rw [ef_80]; exact va_up_self _ _ _
              have hI : IM G h n T z A f_80 := hI.obj F_3 ef_80 rfl ⟨_, _, _, _, _, _, _, _, _, _, rfl, by have := True.intro; have := True.intro; have := True.intro; have := True.intro; omega, by have := True.intro; have := True.intro; have := True.intro; have := True.intro; omega, by have := True.intro; have := True.intro; have := True.intro; have := True.intro; omega, by have := True.intro; have := True.intro; have := True.intro; have := True.intro; omega, by have := True.intro; have := True.intro; have := True.intro; have := True.intro; omega, by have := True.intro; have := True.intro; have := True.intro; have := True.intro; omega, by have := True.intro; have := True.intro; have := True.intro; have := True.intro; omega, by have := True.intro; have := True.intro; have := True.intro; have := True.intro; omega⟩
              have hfr := hfr.up 0 (by decide) ef_80
              have hkp := hkp.obj F_3 F_81 rfl rfl rfl
              have hg_82 := upk hg_9 ef_80 (neM hj (by decide) (by decide) (by decide))
              refine lv_iload hx hb dX6_view_122 (lv_at hl 6 rfl) ?_
              refine lv_if_lt (tgt := 144) hx hb dX6_view_124 (by decide) (fun c_83 => ?_) (fun c_83 => ?_)
              · skip
                have ic_83 : (i.toInt : Int) < 0 := ic_lt rfl kI_0 c_83
                refine lv_iload hx hb dX6_view_144 (lv_at hl 1 rfl) ?_
                refine lv_iconst (v := 2) hx hb dX6_view_146 (by decide) ?_
                refine lv_icmp_ne (tgt := 161) hx hb dX6_view_147 (by decide) (fun c_84 => ?_) (fun c_84 => ?_)
                · skip
                  have ic_84 : (r_72.toInt : Int) ≠ 2 := ic_ne rfl kI_2 c_84
                  refine lv_aload_n hx hb dX6_view_161 rfl (lv_at hl 2 rfl) ?_
                  refine m_get (ci := 6) (v := .ref (h 3)) (C := RX6) (T := TX6) (N := 30) hx hb hC hH hts in_X6_view_X6 hown F_81 rfl 3 (by decide) (hts (.fieldLink RX6 13 "LazyStateModel" "numbers" "[J") (by decide +kernel)) rfl dX6_view_162 ?_
                  refine lv_iload hx hb dX6_view_165 (lv_at hl 0 rfl) ?_
                  obtain ⟨g_85, hg_85, hp_85⟩ : okJ G 8064 (pNu n T) (f_80 (h 3)) := hI.1 3 (by decide)
                  refine m_lald hx hb hC hH hg_85 (vp_in_iff.mpr ⟨by omega, by omega⟩) dX6_view_167 ?_
                  refine lv_topl (fun y_86 ey_86 => ?_)
                  exact m_lret (v := y_86) hx hb hr hlk hC hH (fun _ => (0, 0)) ⟨hI, hfr⟩ (Nat.le_of_ble_eq_true rfl) (Nat.le_of_ble_eq_true rfl) dX6_view_168
                · skip
                  have ic_84 : (r_72.toInt : Int) = 2 := ic_eq rfl kI_2 c_84
                  refine lv_aload_n hx hb dX6_view_150 rfl (lv_at hl 2 rfl) ?_
                  refine m_get (ci := 6) (v := .ref (h 4)) (C := RX6) (T := TX6) (N := 30) hx hb hC hH hts in_X6_view_X6 hown F_81 rfl 4 (by decide) (hts (.fieldLink RX6 17 "LazyStateModel" "sizes" "[I") (by decide +kernel)) rfl dX6_view_151 ?_
                  refine lv_iload hx hb dX6_view_154 (lv_at hl 0 rfl) ?_
                  obtain ⟨g_87, hg_87, hp_87⟩ : okI G 0 8064 (fun g => ∀ L, L < 8064 → (g L).toInt ≤ 8) (f_80 (h 4)) := hI.1 4 (by decide)
                  refine m_iald hx hb hC hH hg_87 (vp_in_iff.mpr ⟨by omega, by omega⟩) dX6_view_156 ?_
                  refine lv_topi (fun x_88 ex_88 => ?_)
                  have qx_88 := hp_87 (x_78.toNatClampNeg) (ic_cl rfl (by omega) (by omega))
                  rw [← ex_88] at qx_88
                  refine lv_i2l hx hb dX6_view_157 rfl ?_
                  refine lv_topl (fun y_89 ey_89 => ?_)
                  have iy_89 : y_89.toInt = x_88.toInt := lc_i2l ey_89 rfl
                  have gy_89 := ic_rng x_88
                  refine lv_goto (tgt := 168) hx hb dX6_view_158 (by decide) ?_
                  exact m_lret (v := y_89) hx hb hr hlk hC hH (fun _ => (0, 0)) ⟨hI, hfr⟩ (Nat.le_of_ble_eq_true rfl) (Nat.le_of_ble_eq_true rfl) dX6_view_168
              · skip
                have ic_83 : (i.toInt : Int) ≥ 0 := ic_nlt rfl kI_0 c_83
                refine lv_aload_n hx hb dX6_view_127 rfl (lv_at hl 2 rfl) ?_
                refine m_get (ci := 6) (v := .ref (h 5)) (C := RX6) (T := TX6) (N := 30) hx hb hC hH hts in_X6_view_X6 hown F_81 rfl 5 (by decide) (hts (.fieldLink RX6 21 "LazyStateModel" "items" "[I") (by decide +kernel)) rfl dX6_view_128 ?_
                refine lv_bipush (v := 8) hx hb dX6_view_131 (by decide) ?_
                refine lv_iload hx hb dX6_view_133 (lv_at hl 0 rfl) ?_
                refine lv_imul hx hb dX6_view_135 ?_
                refine lv_topi (fun x_90 ex_90 => ?_)
                have ix_90 : x_90.toInt = 8 * x_78.toInt := ic_mul ex_90 kI_8 rfl (by omega) (by omega)
                refine lv_iload hx hb dX6_view_136 (lv_at hl 6 rfl) ?_
                refine lv_iadd hx hb dX6_view_138 ?_
                refine lv_topi (fun x_91 ex_91 => ?_)
                have ix_91 : x_91.toInt = x_90.toInt + i.toInt := ic_add ex_91 rfl rfl (by omega) (by omega)
                obtain ⟨g_92, hg_92, hp_92⟩ : okI G 0 64512 (fun _ => True) (f_80 (h 5)) := hI.1 5 (by decide)
                refine m_iald hx hb hC hH hg_92 (vp_in_iff.mpr ⟨by omega, by omega⟩) dX6_view_139 ?_
                refine lv_topi (fun x_93 ex_93 => ?_)
                refine lv_i2l hx hb dX6_view_140 rfl ?_
                refine lv_topl (fun y_94 ey_94 => ?_)
                have iy_94 : y_94.toInt = x_93.toInt := lc_i2l ey_94 rfl
                have gy_94 := ic_rng x_93
                refine lv_goto (tgt := 168) hx hb dX6_view_141 (by decide) ?_
                exact m_lret (v := y_94) hx hb hr hlk hC hH (fun _ => (0, 0)) ⟨hI, hfr⟩ (Nat.le_of_ble_eq_true rfl) (Nat.le_of_ble_eq_true rfl) dX6_view_168
            · skip
              have ic_79 : (i.toInt : Int) ≥ 0 := ic_nlt rfl kI_0 c_79
              refine lv_iload hx hb dX6_view_95 (lv_at hl 1 rfl) ?_
              refine lv_iconst (v := 2) hx hb dX6_view_97 (by decide) ?_
              refine lv_icmp_ne (tgt := 113) hx hb dX6_view_98 (by decide) (fun c_95 => ?_) (fun c_95 => ?_)
              · skip
                have ic_95 : (r_72.toInt : Int) ≠ 2 := ic_ne rfl kI_2 c_95
                refine lv_ldc2 (v := (-1)) hx hb hown (hts (.constantLong RX6 217 (-1)) (by decide +kernel)) dX6_view_113 ?_
                exact m_lret (v := (-1)) hx hb hr hlk hC hH (fun _ => (0, 0)) ⟨hI, hfr⟩ (Nat.le_of_ble_eq_true rfl) (Nat.le_of_ble_eq_true rfl) dX6_view_116
              · skip
                have ic_95 : (r_72.toInt : Int) = 2 := ic_eq rfl kI_2 c_95
                refine lv_iload hx hb dX6_view_101 (lv_at hl 6 rfl) ?_
                refine lv_aload_n hx hb dX6_view_103 rfl (lv_at hl 2 rfl) ?_
                refine m_get (ci := 6) (v := .ref (h 4)) (C := RX6) (T := TX6) (N := 30) hx hb hC hH hts in_X6_view_X6 hown F_3 rfl 4 (by decide) (hts (.fieldLink RX6 17 "LazyStateModel" "sizes" "[I") (by decide +kernel)) rfl dX6_view_104 ?_
                refine lv_iload hx hb dX6_view_107 (lv_at hl 0 rfl) ?_
                obtain ⟨g_96, hg_96, hp_96⟩ : okI G 0 8064 (fun g => ∀ L, L < 8064 → (g L).toInt ≤ 8) (f_2 (h 4)) := hI.1 4 (by decide)
                refine m_iald hx hb hC hH hg_96 (vp_in_iff.mpr ⟨by omega, by omega⟩) dX6_view_109 ?_
                refine lv_topi (fun x_97 ex_97 => ?_)
                have qx_97 := hp_96 (x_78.toNatClampNeg) (ic_cl rfl (by omega) (by omega))
                rw [← ex_97] at qx_97
                refine lv_icmp_lt (tgt := 117) hx hb dX6_view_110 (by decide) (fun c_98 => ?_) (fun c_98 => ?_)
                · skip
                  have ic_98 : (i.toInt : Int) < x_97.toInt := ic_lt rfl rfl c_98
                  refine lv_aload_n hx hb dX6_view_117 rfl (lv_at hl 2 rfl) ?_
                  refine lv_iconst (v := 0) hx hb dX6_view_118 (by decide) ?_
                  refine m_put (ci := 6) (v := .int 0) (C := RX6) (T := TX6) (N := 30) hx hb hC hH hts in_X6_view_X6 tyX6 tyX6_ok nmX6 hown F_3 rfl 29 (by decide) (hts (.fieldLink RX6 214 "LazyStateModel" "status" "I") (by decide +kernel)) rfl rfl rfl (Nat.le_of_ble_eq_true rfl) dX6_view_119 (fun H locs hH => ?_)
                  have hH : mH G s (va_up f_2 (h 0) (some (.inr (6, [.int (nI n), .ref (h 1), .int he_1, .ref (h 3), .ref (h 4), .ref (h 5), .ref (h 6), .int fe_1, .ref (h 8), .ref (h 9), .ref (h 10), .ref (h 11), .ref (h 12), .ref (h 13), .ref (h 14), .ref (h 15), .int ca_1, .long ga_1, .int wh_1, .int tm_1, .ref (h 20), .ref (h 21), .int wm_1, .ref (h 23), .ref (h 24), .int ac_1, .ref (h 26), .ref (h 27), .int th_1, .int 0])))) H locs := hH
                  obtain ⟨f_99, ef_99⟩ : ∃ zz_ : mF, zz_ = va_up f_2 (h 0) (some (.inr (6, [.int (nI n), .ref (h 1), .int he_1, .ref (h 3), .ref (h 4), .ref (h 5), .ref (h 6), .int fe_1, .ref (h 8), .ref (h 9), .ref (h 10), .ref (h 11), .ref (h 12), .ref (h 13), .ref (h 14), .ref (h 15), .int ca_1, .long ga_1, .int wh_1, .int tm_1, .ref (h 20), .ref (h 21), .int wm_1, .ref (h 23), .ref (h 24), .int ac_1, .ref (h 26), .ref (h 27), .int th_1, .int 0]))) := ⟨_, rfl⟩
                  rw [← ef_99] at hH
                  have F_100 : f_99 (h 0) = some (.inr (6, [.int (nI n), .ref (h 1), .int he_1, .ref (h 3), .ref (h 4), .ref (h 5), .ref (h 6), .int fe_1, .ref (h 8), .ref (h 9), .ref (h 10), .ref (h 11), .ref (h 12), .ref (h 13), .ref (h 14), .ref (h 15), .int ca_1, .long ga_1, .int wh_1, .int tm_1, .ref (h 20), .ref (h 21), .int wm_1, .ref (h 23), .ref (h 24), .int ac_1, .ref (h 26), .ref (h 27), .int th_1, .int 0])) := by rw [ef_99]; exact va_up_self _ _ _
                  have hI : IM G h n T z A f_99 := hI.obj F_3 ef_99 rfl ⟨_, _, _, _, _, _, _, _, _, _, rfl, by have := True.intro; have := True.intro; have := True.intro; have := True.intro; omega, by have := True.intro; have := True.intro; have := True.intro; have := True.intro; omega, by have := True.intro; have := True.intro; have := True.intro; have := True.intro; omega, by have := True.intro; have := True.intro; have := True.intro; have := True.intro; omega, by have := True.intro; have := True.intro; have := True.intro; have := True.intro; omega, by have := True.intro; have := True.intro; have := True.intro; have := True.intro; omega, by have := True.intro; have := True.intro; have := True.intro; have := True.intro; omega, by have := True.intro; have := True.intro; have := True.intro; have := True.intro; omega⟩
                  have hfr := hfr.up 0 (by decide) ef_99
                  have hkp := hkp.obj F_3 F_100 rfl rfl rfl
                  have hg_101 := upk hg_9 ef_99 (neM hj (by decide) (by decide) (by decide))
                  have hg_102 := upk hg_96 ef_99 (neM hj (by decide) (by decide) (by decide))
                  refine lv_iload hx hb dX6_view_122 (lv_at hl 6 rfl) ?_
                  refine lv_if_lt (tgt := 144) hx hb dX6_view_124 (by decide) (fun c_103 => ?_) (fun c_103 => ?_)
                  · skip
                    have ic_103 : (i.toInt : Int) < 0 := ic_lt rfl kI_0 c_103
                    refine lv_iload hx hb dX6_view_144 (lv_at hl 1 rfl) ?_
                    refine lv_iconst (v := 2) hx hb dX6_view_146 (by decide) ?_
                    refine lv_icmp_ne (tgt := 161) hx hb dX6_view_147 (by decide) (fun c_104 => ?_) (fun c_104 => ?_)
                    · skip
                      have ic_104 : (r_72.toInt : Int) ≠ 2 := ic_ne rfl kI_2 c_104
                      refine lv_aload_n hx hb dX6_view_161 rfl (lv_at hl 2 rfl) ?_
                      refine m_get (ci := 6) (v := .ref (h 3)) (C := RX6) (T := TX6) (N := 30) hx hb hC hH hts in_X6_view_X6 hown F_100 rfl 3 (by decide) (hts (.fieldLink RX6 13 "LazyStateModel" "numbers" "[J") (by decide +kernel)) rfl dX6_view_162 ?_
                      refine lv_iload hx hb dX6_view_165 (lv_at hl 0 rfl) ?_
                      obtain ⟨g_105, hg_105, hp_105⟩ : okJ G 8064 (pNu n T) (f_99 (h 3)) := hI.1 3 (by decide)
                      refine m_lald hx hb hC hH hg_105 (vp_in_iff.mpr ⟨by omega, by omega⟩) dX6_view_167 ?_
                      refine lv_topl (fun y_106 ey_106 => ?_)
                      exact m_lret (v := y_106) hx hb hr hlk hC hH (fun _ => (0, 0)) ⟨hI, hfr⟩ (Nat.le_of_ble_eq_true rfl) (Nat.le_of_ble_eq_true rfl) dX6_view_168
                    · skip
                      have ic_104 : (r_72.toInt : Int) = 2 := ic_eq rfl kI_2 c_104
                      refine lv_aload_n hx hb dX6_view_150 rfl (lv_at hl 2 rfl) ?_
                      refine m_get (ci := 6) (v := .ref (h 4)) (C := RX6) (T := TX6) (N := 30) hx hb hC hH hts in_X6_view_X6 hown F_100 rfl 4 (by decide) (hts (.fieldLink RX6 17 "LazyStateModel" "sizes" "[I") (by decide +kernel)) rfl dX6_view_151 ?_
                      refine lv_iload hx hb dX6_view_154 (lv_at hl 0 rfl) ?_
                      refine m_iald hx hb hC hH hg_102 (vp_in_iff.mpr ⟨by omega, by omega⟩) dX6_view_156 ?_
                      refine lv_topi (fun x_107 ex_107 => ?_)
                      have qx_107 := hp_96 (x_78.toNatClampNeg) (ic_cl rfl (by omega) (by omega))
                      rw [← ex_107] at qx_107
                      refine lv_i2l hx hb dX6_view_157 rfl ?_
                      refine lv_topl (fun y_108 ey_108 => ?_)
                      have iy_108 : y_108.toInt = x_107.toInt := lc_i2l ey_108 rfl
                      have gy_108 := ic_rng x_107
                      refine lv_goto (tgt := 168) hx hb dX6_view_158 (by decide) ?_
                      exact m_lret (v := y_108) hx hb hr hlk hC hH (fun _ => (0, 0)) ⟨hI, hfr⟩ (Nat.le_of_ble_eq_true rfl) (Nat.le_of_ble_eq_true rfl) dX6_view_168
                  · skip
                    have ic_103 : (i.toInt : Int) ≥ 0 := ic_nlt rfl kI_0 c_103
                    refine lv_aload_n hx hb dX6_view_127 rfl (lv_at hl 2 rfl) ?_
                    refine m_get (ci := 6) (v := .ref (h 5)) (C := RX6) (T := TX6) (N := 30) hx hb hC hH hts in_X6_view_X6 hown F_100 rfl 5 (by decide) (hts (.fieldLink RX6 21 "LazyStateModel" "items" "[I") (by decide +kernel)) rfl dX6_view_128 ?_
                    refine lv_bipush (v := 8) hx hb dX6_view_131 (by decide) ?_
                    refine lv_iload hx hb dX6_view_133 (lv_at hl 0 rfl) ?_
                    refine lv_imul hx hb dX6_view_135 ?_
                    refine lv_topi (fun x_109 ex_109 => ?_)
                    have ix_109 : x_109.toInt = 8 * x_78.toInt := ic_mul ex_109 kI_8 rfl (by omega) (by omega)
                    refine lv_iload hx hb dX6_view_136 (lv_at hl 6 rfl) ?_
                    refine lv_iadd hx hb dX6_view_138 ?_
                    refine lv_topi (fun x_110 ex_110 => ?_)
                    have ix_110 : x_110.toInt = x_109.toInt + i.toInt := ic_add ex_110 rfl rfl (by omega) (by omega)
                    obtain ⟨g_111, hg_111, hp_111⟩ : okI G 0 64512 (fun _ => True) (f_99 (h 5)) := hI.1 5 (by decide)
                    refine m_iald hx hb hC hH hg_111 (vp_in_iff.mpr ⟨by omega, by omega⟩) dX6_view_139 ?_
                    refine lv_topi (fun x_112 ex_112 => ?_)
                    refine lv_i2l hx hb dX6_view_140 rfl ?_
                    refine lv_topl (fun y_113 ey_113 => ?_)
                    have iy_113 : y_113.toInt = x_112.toInt := lc_i2l ey_113 rfl
                    have gy_113 := ic_rng x_112
                    refine lv_goto (tgt := 168) hx hb dX6_view_141 (by decide) ?_
                    exact m_lret (v := y_113) hx hb hr hlk hC hH (fun _ => (0, 0)) ⟨hI, hfr⟩ (Nat.le_of_ble_eq_true rfl) (Nat.le_of_ble_eq_true rfl) dX6_view_168
                · skip
                  have ic_98 : (i.toInt : Int) ≥ x_97.toInt := ic_nlt rfl rfl c_98
                  refine lv_ldc2 (v := (-1)) hx hb hown (hts (.constantLong RX6 217 (-1)) (by decide +kernel)) dX6_view_113 ?_
                  exact m_lret (v := (-1)) hx hb hr hlk hC hH (fun _ => (0, 0)) ⟨hI, hfr⟩ (Nat.le_of_ble_eq_true rfl) (Nat.le_of_ble_eq_true rfl) dX6_view_116
          · skip
            have ic_70 : (i.toInt : Int) ≠ (-3) := ic_ne rfl kI_m3 c_70
            refine lv_ldc2 (v := (-1)) hx hb hown (hts (.constantLong RX6 217 (-1)) (by decide +kernel)) dX6_view_60 ?_
            exact m_lret (v := (-1)) hx hb hr hlk hC hH (fun _ => (0, 0)) ⟨hI, hfr⟩ (Nat.le_of_ble_eq_true rfl) (Nat.le_of_ble_eq_true rfl) dX6_view_63
set_option maxHeartbeats 4000000 in
set_option maxRecDepth 100000 in
theorem c_X6_told (l : Launch) (G : mG) (h : Nat → Nat) (n : Nat) (T : Nat → Int32) (z : Nat → Nat) (A : Nat → tA) (f : mF) (hI : IM G h n T z A f) (w_ : Int32) : Met l yX6_told wsX6_told ({ frames := 0, cells := 0, slots := 0, locals := 0 }) (va_Pc [.ref (h 0), .int w_] (mW G f)) (va_Qi (fun (r : Int32) (u : mS) => u.2 = f) (fun (u : mS) t => mW G u.2 t) (mA G)) 0 0 (mA G) := by
  refine mMet [.ref (h 0), .int w_] (cc := cX6_told) (maxL := 5) (ret := (some .int)) (by decide) rfl (Nat.le_of_ble_eq_true rfl) ?_
  intro p e s m below meth c ls hx hb hr hml hts hown hlk hnm hC hH hl
  have hl : lv_has ls 5 [(0, .ref (h 0)), (1, .int w_)] := hl
  have hj := hI.2.2.1
  have hn24 := hI.2.2.2.1
  have nIn : (nI n).toInt = (n : Int) := nI_toInt (by omega)
  have hfr : frM h f f := frM.rf
  have hkp : kpM h f f := kpM.rf
  refine lv_iconst (v := 0) hx hb dX6_told_0 (by decide) ?_
  refine lv_istore_n (lv' := [(2, .int 0), (0, .ref (h 0)), (1, .int w_)]) hx hb dX6_told_1 rfl hl (by decide) rfl (fun ls hl => ?_)
  refine lv_iconst (v := 0) hx hb dX6_told_2 (by decide) ?_
  refine lv_istore_n (lv' := [(3, .int 0), (2, .int 0), (0, .ref (h 0)), (1, .int w_)]) hx hb dX6_told_3 rfl hl (by decide) rfl (fun ls hl => ?_)
  refine lv_iconst (v := 0) hx hb dX6_told_4 (by decide) ?_
  refine lv_istore (lv' := [(4, .int 0), (3, .int 0), (2, .int 0), (0, .ref (h 0)), (1, .int w_)]) hx hb dX6_told_5 hl (by decide) rfl (fun ls hl => ?_)
  have loop_7 : ∀ (fuel_ : Nat) (l2 : Int32) (k4 : Int32) (h0_ : 0 ≤ k4.toInt) (h1_ : k4.toInt ≤ 24) (_ : ((24 : Int) - k4.toInt).toNat < fuel_) (H : Heap) (locs : List Loc) (ls : Array Slot) (_ : mH G s f H locs) (_ : lv_has ls 5 [(0, .ref (h 0)), (1, .int w_), (2, .int l2), (3, .int 0), (4, .int k4)]), W p l e ({ frames := 0, cells := 0, slots := 0, locals := 0 } : Room) s m ([.ref (h 0), .int w_] : List Value).toArray below meth c H locs 0 0 (MQ below (va_Qi (fun (r : Int32) (u : mS) => u.2 = f) (fun (u : mS) t => mW G u.2 t) (mA G)) ([.ref (h 0), .int w_] : List Value).toArray s 0 0 (mA G)) (F0 m 7 ls []) := by
    intro N_7
    induction N_7 with
    | zero => intro l2 k4 h0_ h1_ hN; omega
    | succ N_7 ih_7 =>
      intro l2 k4 h0_ h1_ hN_7 H locs ls hH hl
      refine lv_iload hx hb dX6_told_7 (lv_at hl 4 rfl) ?_
      refine lv_bipush (v := 24) hx hb dX6_told_9 (by decide) ?_
      refine lv_icmp_ge (tgt := 38) hx hb dX6_told_11 (by decide) (fun c_1 => ?_) (fun c_1 => ?_)
      · skip
        have ic_1 : (24 : Int) ≤ k4.toInt := ic_le kI_24 rfl c_1
        refine lv_iconst (v := 0) hx hb dX6_told_38 (by decide) ?_
        refine lv_istore (lv' := [(4, .int 0), (0, .ref (h 0)), (1, .int w_), (2, .int l2), (3, .int 0)]) hx hb dX6_told_39 hl (by decide) rfl (fun ls hl => ?_)
        have loop_41 : ∀ (fuel_ : Nat) (c3 : Int32) (k4 : Int32) (h0_ : 0 ≤ k4.toInt) (h1_ : k4.toInt ≤ 384) (_ : ((384 : Int) - k4.toInt).toNat < fuel_) (H : Heap) (locs : List Loc) (ls : Array Slot) (_ : mH G s f H locs) (_ : lv_has ls 5 [(0, .ref (h 0)), (1, .int w_), (2, .int l2), (3, .int c3), (4, .int k4)]), W p l e ({ frames := 0, cells := 0, slots := 0, locals := 0 } : Room) s m ([.ref (h 0), .int w_] : List Value).toArray below meth c H locs 0 0 (MQ below (va_Qi (fun (r : Int32) (u : mS) => u.2 = f) (fun (u : mS) t => mW G u.2 t) (mA G)) ([.ref (h 0), .int w_] : List Value).toArray s 0 0 (mA G)) (F0 m 41 ls []) := by
          intro N_41
          induction N_41 with
          | zero => intro c3 k4 h0_ h1_ hN; omega
          | succ N_41 ih_41 =>
            intro c3 k4 h0_ h1_ hN_41 H locs ls hH hl
            refine lv_iload hx hb dX6_told_41 (lv_at hl 4 rfl) ?_
            refine lv_aload_n hx hb dX6_told_43 rfl (lv_at hl 0 rfl) ?_
            obtain ⟨he_2, fe_2, ca_2, ga_2, wh_2, tm_2, wm_2, ac_2, th_2, st_2, F_2, b1_2, b2_2, b3_2, b4_2, b5_2, b6_2, b7_2, b8_2⟩ : okM0 h n (f (h 0)) := hI.1 0 (by decide)
            refine m_get (ci := 6) (v := .int tm_2) (C := RX6) (T := TX6) (N := 30) hx hb hC hH hts in_X6_told_X6 hown F_2 rfl 19 (by decide) (hts (.fieldLink RX6 152 "LazyStateModel" "touchedMany" "I") (by decide +kernel)) rfl dX6_told_44 ?_
            refine lv_icmp_ge (tgt := 66) hx hb dX6_told_47 (by decide) (fun c_3 => ?_) (fun c_3 => ?_)
            · skip
              have ic_3 : (tm_2.toInt : Int) ≤ k4.toInt := ic_le rfl rfl c_3
              refine lv_iload_n hx hb dX6_told_66 rfl (lv_at hl 1 rfl) ?_
              have hk_4 : (w_.toInt < 0 ∨ 8 < w_.toInt) ∨ w_.toInt = 0 ∨ w_.toInt = 1 ∨ w_.toInt = 2 ∨ w_.toInt = 3 ∨ w_.toInt = 4 ∨ w_.toInt = 5 ∨ w_.toInt = 6 ∨ w_.toInt = 7 ∨ w_.toInt = 8 := by omega
              rcases hk_4 with hk_4 | hk_4 | hk_4 | hk_4 | hk_4 | hk_4 | hk_4 | hk_4 | hk_4 | hk_4
              · skip
                refine lv_tableOut (tgt := 155) hx hb dX6_told_67 hk_4 (by decide) ?_
                refine lv_iconst (v := (-1)) hx hb dX6_told_155 (by decide) ?_
                exact m_iret (v := (-1)) hx hb hr hlk hC hH (fun _ => (0, 0)) rfl (Nat.le_of_ble_eq_true rfl) (Nat.le_of_ble_eq_true rfl) dX6_told_156
              · skip
                have jk_4 : w_.toInt = 0 := hk_4
                refine lv_tableIn (off := 49) (tgt := 116) hx hb dX6_told_67 (by rw [jk_4]; decide) (by rw [jk_4]; decide) (by rw [jk_4]; rfl) (by decide) ?_
                refine lv_aload_n hx hb dX6_told_116 rfl (lv_at hl 0 rfl) ?_
                refine m_get (ci := 6) (v := .int (nI n)) (C := RX6) (T := TX6) (N := 30) hx hb hC hH hts in_X6_told_X6 hown F_2 rfl 0 (by decide) (hts (.fieldLink RX6 74 "LazyStateModel" "objects" "I") (by decide +kernel)) rfl dX6_told_117 ?_
                exact m_iret (v := nI n) hx hb hr hlk hC hH (fun _ => (0, 0)) rfl (Nat.le_of_ble_eq_true rfl) (Nat.le_of_ble_eq_true rfl) dX6_told_120
              · skip
                have jk_4 : w_.toInt = 1 := hk_4
                refine lv_tableIn (off := 54) (tgt := 121) hx hb dX6_told_67 (by rw [jk_4]; decide) (by rw [jk_4]; decide) (by rw [jk_4]; rfl) (by decide) ?_
                refine lv_aload_n hx hb dX6_told_121 rfl (lv_at hl 0 rfl) ?_
                refine m_get (ci := 6) (v := .int he_2) (C := RX6) (T := TX6) (N := 30) hx hb hC hH hts in_X6_told_X6 hown F_2 rfl 2 (by decide) (hts (.fieldLink RX6 104 "LazyStateModel" "height" "I") (by decide +kernel)) rfl dX6_told_122 ?_
                exact m_iret (v := he_2) hx hb hr hlk hC hH (fun _ => (0, 0)) rfl (Nat.le_of_ble_eq_true rfl) (Nat.le_of_ble_eq_true rfl) dX6_told_125
              · skip
                have jk_4 : w_.toInt = 2 := hk_4
                refine lv_tableIn (off := 59) (tgt := 126) hx hb dX6_told_67 (by rw [jk_4]; decide) (by rw [jk_4]; decide) (by rw [jk_4]; rfl) (by decide) ?_
                refine lv_aload_n hx hb dX6_told_126 rfl (lv_at hl 0 rfl) ?_
                refine m_get (ci := 6) (v := .int fe_2) (C := RX6) (T := TX6) (N := 30) hx hb hC hH hts in_X6_told_X6 hown F_2 rfl 7 (by decide) (hts (.fieldLink RX6 149 "LazyStateModel" "fetches" "I") (by decide +kernel)) rfl dX6_told_127 ?_
                exact m_iret (v := fe_2) hx hb hr hlk hC hH (fun _ => (0, 0)) rfl (Nat.le_of_ble_eq_true rfl) (Nat.le_of_ble_eq_true rfl) dX6_told_130
              · skip
                have jk_4 : w_.toInt = 3 := hk_4
                refine lv_tableIn (off := 64) (tgt := 131) hx hb dX6_told_67 (by rw [jk_4]; decide) (by rw [jk_4]; decide) (by rw [jk_4]; rfl) (by decide) ?_
                refine lv_aload_n hx hb dX6_told_131 rfl (lv_at hl 0 rfl) ?_
                refine m_get (ci := 6) (v := .int tm_2) (C := RX6) (T := TX6) (N := 30) hx hb hC hH hts in_X6_told_X6 hown F_2 rfl 19 (by decide) (hts (.fieldLink RX6 152 "LazyStateModel" "touchedMany" "I") (by decide +kernel)) rfl dX6_told_132 ?_
                exact m_iret (v := tm_2) hx hb hr hlk hC hH (fun _ => (0, 0)) rfl (Nat.le_of_ble_eq_true rfl) (Nat.le_of_ble_eq_true rfl) dX6_told_135
              · skip
                have jk_4 : w_.toInt = 4 := hk_4
                refine lv_tableIn (off := 69) (tgt := 136) hx hb dX6_told_67 (by rw [jk_4]; decide) (by rw [jk_4]; decide) (by rw [jk_4]; rfl) (by decide) ?_
                refine lv_iload_n hx hb dX6_told_136 rfl (lv_at hl 3 rfl) ?_
                exact m_iret (v := c3) hx hb hr hlk hC hH (fun _ => (0, 0)) rfl (Nat.le_of_ble_eq_true rfl) (Nat.le_of_ble_eq_true rfl) dX6_told_137
              · skip
                have jk_4 : w_.toInt = 5 := hk_4
                refine lv_tableIn (off := 71) (tgt := 138) hx hb dX6_told_67 (by rw [jk_4]; decide) (by rw [jk_4]; decide) (by rw [jk_4]; rfl) (by decide) ?_
                refine lv_aload_n hx hb dX6_told_138 rfl (lv_at hl 0 rfl) ?_
                refine m_get (ci := 6) (v := .int wm_2) (C := RX6) (T := TX6) (N := 30) hx hb hC hH hts in_X6_told_X6 hown F_2 rfl 22 (by decide) (hts (.fieldLink RX6 196 "LazyStateModel" "writtenMany" "I") (by decide +kernel)) rfl dX6_told_139 ?_
                exact m_iret (v := wm_2) hx hb hr hlk hC hH (fun _ => (0, 0)) rfl (Nat.le_of_ble_eq_true rfl) (Nat.le_of_ble_eq_true rfl) dX6_told_142
              · skip
                have jk_4 : w_.toInt = 6 := hk_4
                refine lv_tableIn (off := 76) (tgt := 143) hx hb dX6_told_67 (by rw [jk_4]; decide) (by rw [jk_4]; decide) (by rw [jk_4]; rfl) (by decide) ?_
                refine lv_iload_n hx hb dX6_told_143 rfl (lv_at hl 2 rfl) ?_
                exact m_iret (v := l2) hx hb hr hlk hC hH (fun _ => (0, 0)) rfl (Nat.le_of_ble_eq_true rfl) (Nat.le_of_ble_eq_true rfl) dX6_told_144
              · skip
                have jk_4 : w_.toInt = 7 := hk_4
                refine lv_tableIn (off := 78) (tgt := 145) hx hb dX6_told_67 (by rw [jk_4]; decide) (by rw [jk_4]; decide) (by rw [jk_4]; rfl) (by decide) ?_
                refine lv_aload_n hx hb dX6_told_145 rfl (lv_at hl 0 rfl) ?_
                refine m_get (ci := 6) (v := .int ac_2) (C := RX6) (T := TX6) (N := 30) hx hb hC hH hts in_X6_told_X6 hown F_2 rfl 25 (by decide) (hts (.fieldLink RX6 199 "LazyStateModel" "acts" "I") (by decide +kernel)) rfl dX6_told_146 ?_
                exact m_iret (v := ac_2) hx hb hr hlk hC hH (fun _ => (0, 0)) rfl (Nat.le_of_ble_eq_true rfl) (Nat.le_of_ble_eq_true rfl) dX6_told_149
              · skip
                have jk_4 : w_.toInt = 8 := hk_4
                refine lv_tableIn (off := 83) (tgt := 150) hx hb dX6_told_67 (by rw [jk_4]; decide) (by rw [jk_4]; decide) (by rw [jk_4]; rfl) (by decide) ?_
                refine lv_aload_n hx hb dX6_told_150 rfl (lv_at hl 0 rfl) ?_
                refine m_get (ci := 6) (v := .int ca_2) (C := RX6) (T := TX6) (N := 30) hx hb hC hH hts in_X6_told_X6 hown F_2 rfl 16 (by decide) (hts (.fieldLink RX6 202 "LazyStateModel" "calls" "I") (by decide +kernel)) rfl dX6_told_151 ?_
                exact m_iret (v := ca_2) hx hb hr hlk hC hH (fun _ => (0, 0)) rfl (Nat.le_of_ble_eq_true rfl) (Nat.le_of_ble_eq_true rfl) dX6_told_154
            · skip
              have ic_3 : (tm_2.toInt : Int) > k4.toInt := ic_nle rfl rfl c_3
              refine lv_iload_n hx hb dX6_told_50 rfl (lv_at hl 3 rfl) ?_
              refine lv_aload_n hx hb dX6_told_51 rfl (lv_at hl 0 rfl) ?_
              refine m_get (ci := 6) (v := .ref (h 21)) (C := RX6) (T := TX6) (N := 30) hx hb hC hH hts in_X6_told_X6 hown F_2 rfl 21 (by decide) (hts (.fieldLink RX6 59 "LazyStateModel" "touchedHow" "[I") (by decide +kernel)) rfl dX6_told_52 ?_
              refine lv_iload hx hb dX6_told_55 (lv_at hl 4 rfl) ?_
              obtain ⟨g_5, hg_5, hp_5⟩ : okI G 0 400 (fun _ => True) (f (h 21)) := hI.1 21 (by decide)
              refine m_iald hx hb hC hH hg_5 (vp_in_iff.mpr ⟨by omega, by omega⟩) dX6_told_57 ?_
              refine lv_topi (fun x_6 ex_6 => ?_)
              refine lv_iadd hx hb dX6_told_58 ?_
              refine lv_topi (fun x_7 ex_7 => ?_)
              refine lv_istore_n (lv' := [(3, .int x_7), (0, .ref (h 0)), (1, .int w_), (2, .int l2), (4, .int k4)]) hx hb dX6_told_59 rfl hl (by decide) rfl (fun ls hl => ?_)
              obtain ⟨x_8, ex_8⟩ : ∃ y : Int32, y = k4 + 1 := ⟨_, rfl⟩
              have ix_8 : x_8.toInt = k4.toInt + 1 := ic_add ex_8 rfl kI_1 (by omega) (by omega)
              refine lv_iinc (v := x_8) (lv' := [(4, .int x_8), (3, .int x_7), (0, .ref (h 0)), (1, .int w_), (2, .int l2)]) hx hb dX6_told_60 hl (k := 4) rfl (by rw [ex_8]; rfl) (by decide) rfl (fun ls hl => ?_)
              refine lv_goto (tgt := 41) hx hb dX6_told_63 (by decide) ?_
              exact ih_41 x_7 x_8 (by omega) (by omega) (by omega) _ _ _ hH (lv_sub hl [2, 3, 4, 1, 0] rfl)
        exact loop_41 (((384 : Int) - 0).toNat + 1) 0 0 (by have := kI_0; have := kI_0; omega) (by have := kI_0; have := kI_0; omega) (by have := kI_0; have := kI_0; omega) _ _ _ hH (lv_sub hl [1, 2, 3, 4, 0] rfl)
      · skip
        have ic_1 : (24 : Int) > k4.toInt := ic_nle kI_24 rfl c_1
        refine lv_iload_n hx hb dX6_told_14 rfl (lv_at hl 2 rfl) ?_
        refine lv_aload_n hx hb dX6_told_15 rfl (lv_at hl 0 rfl) ?_
        obtain ⟨he_9, fe_9, ca_9, ga_9, wh_9, tm_9, wm_9, ac_9, th_9, st_9, F_9, b1_9, b2_9, b3_9, b4_9, b5_9, b6_9, b7_9, b8_9⟩ : okM0 h n (f (h 0)) := hI.1 0 (by decide)
        refine m_get (ci := 6) (v := .ref (h 24)) (C := RX6) (T := TX6) (N := 30) hx hb hC hH hts in_X6_told_X6 hown F_9 rfl 24 (by decide) (hts (.fieldLink RX6 65 "LazyStateModel" "isLoaded" "[Z") (by decide +kernel)) rfl dX6_told_16 ?_
        refine lv_iload hx hb dX6_told_19 (lv_at hl 4 rfl) ?_
        obtain ⟨g_10, hg_10, hp_10⟩ : okI G 2 24 (fun _ => True) (f (h 24)) := hI.1 24 (by decide)
        refine m_zald hx hb hC hH hg_10 (vp_in_iff.mpr ⟨by omega, by omega⟩) dX6_told_21 ?_
        refine lv_topi (fun x_11 ex_11 => ?_)
        refine lv_if_eq (tgt := 29) hx hb dX6_told_22 (by decide) (fun c_12 => ?_) (fun c_12 => ?_)
        · skip
          have ic_12 : (x_11.toInt : Int) = 0 := ic_eq rfl kI_0 c_12
          refine lv_iconst (v := 0) hx hb dX6_told_29 (by decide) ?_
          refine lv_iadd hx hb dX6_told_30 ?_
          refine lv_topi (fun x_13 ex_13 => ?_)
          refine lv_istore_n (lv' := [(2, .int x_13), (0, .ref (h 0)), (1, .int w_), (3, .int 0), (4, .int k4)]) hx hb dX6_told_31 rfl hl (by decide) rfl (fun ls hl => ?_)
          obtain ⟨x_14, ex_14⟩ : ∃ y : Int32, y = k4 + 1 := ⟨_, rfl⟩
          have ix_14 : x_14.toInt = k4.toInt + 1 := ic_add ex_14 rfl kI_1 (by omega) (by omega)
          refine lv_iinc (v := x_14) (lv' := [(4, .int x_14), (2, .int x_13), (0, .ref (h 0)), (1, .int w_), (3, .int 0)]) hx hb dX6_told_32 hl (k := 4) rfl (by rw [ex_14]; rfl) (by decide) rfl (fun ls hl => ?_)
          refine lv_goto (tgt := 7) hx hb dX6_told_35 (by decide) ?_
          exact ih_7 x_13 x_14 (by omega) (by omega) (by omega) _ _ _ hH (lv_sub hl [2, 3, 1, 4, 0] rfl)
        · skip
          have ic_12 : (x_11.toInt : Int) ≠ 0 := ic_ne rfl kI_0 c_12
          refine lv_iconst (v := 1) hx hb dX6_told_25 (by decide) ?_
          refine lv_goto (tgt := 30) hx hb dX6_told_26 (by decide) ?_
          refine lv_iadd hx hb dX6_told_30 ?_
          refine lv_topi (fun x_15 ex_15 => ?_)
          refine lv_istore_n (lv' := [(2, .int x_15), (0, .ref (h 0)), (1, .int w_), (3, .int 0), (4, .int k4)]) hx hb dX6_told_31 rfl hl (by decide) rfl (fun ls hl => ?_)
          obtain ⟨x_16, ex_16⟩ : ∃ y : Int32, y = k4 + 1 := ⟨_, rfl⟩
          have ix_16 : x_16.toInt = k4.toInt + 1 := ic_add ex_16 rfl kI_1 (by omega) (by omega)
          refine lv_iinc (v := x_16) (lv' := [(4, .int x_16), (2, .int x_15), (0, .ref (h 0)), (1, .int w_), (3, .int 0)]) hx hb dX6_told_32 hl (k := 4) rfl (by rw [ex_16]; rfl) (by decide) rfl (fun ls hl => ?_)
          refine lv_goto (tgt := 7) hx hb dX6_told_35 (by decide) ?_
          exact ih_7 x_15 x_16 (by omega) (by omega) (by omega) _ _ _ hH (lv_sub hl [2, 3, 1, 4, 0] rfl)
  exact loop_7 (((24 : Int) - 0).toNat + 1) 0 0 (by have := kI_0; have := kI_0; omega) (by have := kI_0; have := kI_0; omega) (by have := kI_0; have := kI_0; omega) _ _ _ hH (lv_sub hl [3, 4, 2, 1, 0] rfl)
