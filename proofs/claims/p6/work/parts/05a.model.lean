set_option maxHeartbeats 4000000 in
set_option maxRecDepth 100000 in
theorem c_X6_in (l : Launch) (G : mG) (f : mF) (v lo hi : Int64) : Met l yX6_in wsX6_in ({ frames := 0, cells := 0, slots := 0, locals := 0 }) (va_Pc [.long v, .long lo, .long hi] (mW G f)) (va_Qi (fun (r : Int32) (u : mS) => u.2 = f ∧ ((r.toInt = 1 ∧ lo.toInt ≤ v.toInt ∧ v.toInt ≤ hi.toInt) ∨ (r.toInt = 0 ∧ (v.toInt < lo.toInt ∨ hi.toInt < v.toInt)))) (fun (u : mS) t => mW G u.2 t) (mA G)) 0 0 (mA G) := by
  refine mMet [.long v, .long lo, .long hi] (cc := cX6_in) (maxL := 6) (ret := (some .boolean)) (by decide) rfl (Nat.le_of_ble_eq_true rfl) ?_
  intro p e s m below meth c ls hx hb hr hml hts hown hlk hnm hC hH hl
  have hl : lv_has ls 6 [(0, .long v), (2, .long lo), (4, .long hi)] := hl
  refine lv_lload_n hx hb dX6_in_0 rfl (lv_at hl 0 rfl) ?_
  refine lv_lload_n hx hb dX6_in_1 rfl (lv_at hl 1 rfl) ?_
  refine W.lcmp hx hb dX6_in_2 ?_
  refine lv_if_lt (tgt := 17) hx hb dX6_in_3 (by decide) (fun c_1 => ?_) (fun c_1 => ?_)
  · skip
    have ic_1 : (v.toInt : Int) < lo.toInt := lc_lt rfl rfl ((lg_cmp_lt _ _).mp c_1)
    refine lv_iconst (v := 0) hx hb dX6_in_17 (by decide) ?_
    exact m_zret (v := 0) hx hb hr (by rfl) hlk hC hH (fun _ => (0, 0)) ⟨rfl, by have := kI_0; omega⟩ (Nat.le_of_ble_eq_true rfl) (Nat.le_of_ble_eq_true rfl) dX6_in_18
  · skip
    have ic_1 : (v.toInt : Int) ≥ lo.toInt := lc_nlt rfl rfl (fun q_ => c_1 ((lg_cmp_lt _ _).mpr q_))
    refine lv_lload_n hx hb dX6_in_6 rfl (lv_at hl 0 rfl) ?_
    refine lv_lload hx hb dX6_in_7 (lv_at hl 2 rfl) ?_
    refine W.lcmp hx hb dX6_in_9 ?_
    refine lv_if_gt (tgt := 17) hx hb dX6_in_10 (by decide) (fun c_2 => ?_) (fun c_2 => ?_)
    · skip
      have ic_2 : (hi.toInt : Int) < v.toInt := lc_lt rfl rfl ((lg_cmp_gt _ _).mp c_2)
      refine lv_iconst (v := 0) hx hb dX6_in_17 (by decide) ?_
      exact m_zret (v := 0) hx hb hr (by rfl) hlk hC hH (fun _ => (0, 0)) ⟨rfl, by have := kI_0; omega⟩ (Nat.le_of_ble_eq_true rfl) (Nat.le_of_ble_eq_true rfl) dX6_in_18
    · skip
      have ic_2 : (hi.toInt : Int) ≥ v.toInt := lc_nlt rfl rfl (fun q_ => c_2 ((lg_cmp_gt _ _).mpr q_))
      refine lv_iconst (v := 1) hx hb dX6_in_13 (by decide) ?_
      refine lv_goto (tgt := 18) hx hb dX6_in_14 (by decide) ?_
      exact m_zret (v := 1) hx hb hr (by rfl) hlk hC hH (fun _ => (0, 0)) ⟨rfl, by have := kI_1; omega⟩ (Nat.le_of_ble_eq_true rfl) (Nat.le_of_ble_eq_true rfl) dX6_in_18
set_option maxHeartbeats 4000000 in
set_option maxRecDepth 100000 in
theorem c_X6_isObject (l : Launch) (G : mG) (h : Nat → Nat) (n : Nat) (T : Nat → Int32) (z : Nat → Nat) (A : Nat → tA) (f : mF) (hI : IM G h n T z A f) (o : Int32) : Met l yX6_isObject wsX6_isObject ({ frames := 1, cells := 0, slots := 0, locals := 25 }) (va_Pc [.ref (h 0), .int o] (mW G f)) (va_Qi (fun (r : Int32) (u : mS) => u.2 = f ∧ ((r.toInt = 1 ∧ 0 ≤ o.toInt ∧ o.toInt < n) ∨ (r.toInt = 0 ∧ (o.toInt < 0 ∨ n ≤ o.toInt)))) (fun (u : mS) t => mW G u.2 t) (mA G)) 0 0 (mA G) := by
  refine mMet [.ref (h 0), .int o] (cc := cX6_isObject) (maxL := 2) (ret := (some .boolean)) (by decide) rfl (Nat.le_of_ble_eq_true rfl) ?_
  intro p e s m below meth c ls hx hb hr hml hts hown hlk hnm hC hH hl
  have hl : lv_has ls 2 [(0, .ref (h 0)), (1, .int o)] := hl
  have hj := hI.2.2.1
  have hn24 := hI.2.2.2.1
  have nIn : (nI n).toInt = (n : Int) := nI_toInt (by omega)
  have hfr : frM h f f := frM.rf
  have hkp : kpM h f f := kpM.rf
  have ro := ic_rng o
  refine lv_iload_n hx hb dX6_isObject_0 rfl (lv_at hl 1 rfl) ?_
  refine lv_i2l hx hb dX6_isObject_1 rfl ?_
  refine lv_topl (fun y_1 ey_1 => ?_)
  have iy_1 : y_1.toInt = o.toInt := lc_i2l ey_1 rfl
  have gy_1 := ic_rng o
  refine lv_lconst (v := 0) hx hb dX6_isObject_2 (by decide) ?_
  refine lv_aload_n hx hb dX6_isObject_3 rfl (lv_at hl 0 rfl) ?_
  obtain ⟨he_2, fe_2, ca_2, ga_2, wh_2, tm_2, wm_2, ac_2, th_2, st_2, F_2, b1_2, b2_2, b3_2, b4_2, b5_2, b6_2, b7_2, b8_2⟩ : okM0 h n (f (h 0)) := hI.1 0 (by decide)
  refine m_get (ci := 6) (v := .int (nI n)) (C := RX6) (T := TX6) (N := 30) hx hb hC hH hts in_X6_isObject_X6 hown F_2 rfl 0 (by decide) (hts (.fieldLink RX6 74 "LazyStateModel" "objects" "I") (by decide +kernel)) rfl dX6_isObject_4 ?_
  refine lv_iconst (v := 1) hx hb dX6_isObject_7 (by decide) ?_
  refine lv_isub hx hb dX6_isObject_8 ?_
  refine lv_topi (fun x_3 ex_3 => ?_)
  have ix_3 : x_3.toInt = (n : Int) - 1 := ic_sub ex_3 nIn kI_1 (by omega) (by omega)
  refine lv_i2l hx hb dX6_isObject_9 rfl ?_
  refine lv_topl (fun y_4 ey_4 => ?_)
  have iy_4 : y_4.toInt = x_3.toInt := lc_i2l ey_4 rfl
  have gy_4 := ic_rng x_3
  refine m_goi hH (va_runS (As := [.long y_1, .long 0, .long y_4]) (rest := []) ⟨hx, hb, hml, hown, hts⟩ (c_X6_in l G f y_1 0 y_4) (va_cwS 3 hts gX6_isObject_X6_in rfl rfl rfl (by decide +kernel) ⟨Nat.le_of_ble_eq_true rfl, Nat.le_of_ble_eq_true rfl⟩) (m_preS hC hH) rfl rfl hl.1 rfl (lv_room (Nat.le_of_ble_eq_true rfl)) dX6_isObject_10 ⟨Nat.le_of_ble_eq_true rfl, Nat.le_of_ble_eq_true rfl⟩) (fun r_5 rho_7 f_6 H locs hw hH => ?_)
  obtain ⟨hu, hr_5⟩ := hw
  have hu : f_6 = f := hu
  rw [hu] at hH
  have hr_5 : (r_5.toInt = 1 ∧ 0 ≤ y_1.toInt ∧ y_1.toInt ≤ y_4.toInt) ∨ (r_5.toInt = 0 ∧ (y_1.toInt < 0 ∨ y_4.toInt < y_1.toInt)) := by have q0 := (rfl : y_1.toInt = _); have q1 := kJ_0; have q2 := (rfl : y_4.toInt = _); omega
  exact m_zret (v := r_5) hx hb hr (ic_nar _ (by omega)) hlk hC hH (fun _ => (0, 0)) ⟨rfl, by omega⟩ (Nat.le_of_ble_eq_true rfl) (Nat.le_of_ble_eq_true rfl) dX6_isObject_13
set_option maxHeartbeats 4000000 in
set_option maxRecDepth 100000 in
theorem c_X6_fieldsOf (l : Launch) (G : mG) (f : mF) (ty : Int32) : Met l yX6_fieldsOf wsX6_fieldsOf ({ frames := 0, cells := 0, slots := 0, locals := 0 }) (va_Pc [.int ty] (mW G f)) (va_Qi (fun (r : Int32) (u : mS) => u.2 = f ∧ r.toInt = fldM ty.toInt) (fun (u : mS) t => mW G u.2 t) (mA G)) 0 0 (mA G) := by
  refine mMet [.int ty] (cc := cX6_fieldsOf) (maxL := 1) (ret := (some .int)) (by decide) rfl (Nat.le_of_ble_eq_true rfl) ?_
  intro p e s m below meth c ls hx hb hr hml hts hown hlk hnm hC hH hl
  have hl : lv_has ls 1 [(0, .int ty)] := hl
  refine lv_iload_n hx hb dX6_fieldsOf_0 rfl (lv_at hl 0 rfl) ?_
  refine lv_if_ne (tgt := 8) hx hb dX6_fieldsOf_1 (by decide) (fun c_1 => ?_) (fun c_1 => ?_)
  · skip
    have ic_1 : (ty.toInt : Int) ≠ 0 := ic_ne rfl kI_0 c_1
    refine lv_iload_n hx hb dX6_fieldsOf_8 rfl (lv_at hl 0 rfl) ?_
    refine lv_iconst (v := 1) hx hb dX6_fieldsOf_9 (by decide) ?_
    refine lv_icmp_ne (tgt := 18) hx hb dX6_fieldsOf_10 (by decide) (fun c_2 => ?_) (fun c_2 => ?_)
    · skip
      have ic_2 : (ty.toInt : Int) ≠ 1 := ic_ne rfl kI_1 c_2
      refine lv_iconst (v := 4) hx hb dX6_fieldsOf_18 (by decide) ?_
      exact m_iret (v := 4) hx hb hr hlk hC hH (fun _ => (0, 0)) ⟨rfl, by rw [kI_4]; unfold fldM; (repeat' split) <;> omega⟩ (Nat.le_of_ble_eq_true rfl) (Nat.le_of_ble_eq_true rfl) dX6_fieldsOf_19
    · skip
      have ic_2 : (ty.toInt : Int) = 1 := ic_eq rfl kI_1 c_2
      refine lv_bipush (v := 6) hx hb dX6_fieldsOf_13 (by decide) ?_
      refine lv_goto (tgt := 19) hx hb dX6_fieldsOf_15 (by decide) ?_
      exact m_iret (v := 6) hx hb hr hlk hC hH (fun _ => (0, 0)) ⟨rfl, by rw [kI_6]; unfold fldM; (repeat' split) <;> omega⟩ (Nat.le_of_ble_eq_true rfl) (Nat.le_of_ble_eq_true rfl) dX6_fieldsOf_19
  · skip
    have ic_1 : (ty.toInt : Int) = 0 := ic_eq rfl kI_0 c_1
    refine lv_iconst (v := 3) hx hb dX6_fieldsOf_4 (by decide) ?_
    refine lv_goto (tgt := 19) hx hb dX6_fieldsOf_5 (by decide) ?_
    exact m_iret (v := 3) hx hb hr hlk hC hH (fun _ => (0, 0)) ⟨rfl, by rw [kI_3]; unfold fldM; (repeat' split) <;> omega⟩ (Nat.le_of_ble_eq_true rfl) (Nat.le_of_ble_eq_true rfl) dX6_fieldsOf_19
set_option maxHeartbeats 4000000 in
set_option maxRecDepth 100000 in
theorem c_X6_sortOf (l : Launch) (G : mG) (f : mF) (ty j : Int32) : Met l yX6_sortOf wsX6_sortOf ({ frames := 0, cells := 0, slots := 0, locals := 0 }) (va_Pc [.int ty, .int j] (mW G f)) (va_Qi (fun (r : Int32) (u : mS) => u.2 = f ∧ r.toInt = srtM ty.toInt j.toInt) (fun (u : mS) t => mW G u.2 t) (mA G)) 0 0 (mA G) := by
  refine mMet [.int ty, .int j] (cc := cX6_sortOf) (maxL := 2) (ret := (some .int)) (by decide) rfl (Nat.le_of_ble_eq_true rfl) ?_
  intro p e s m below meth c ls hx hb hr hml hts hown hlk hnm hC hH hl
  have hl : lv_has ls 2 [(0, .int ty), (1, .int j)] := hl
  refine lv_iload_n hx hb dX6_sortOf_0 rfl (lv_at hl 0 rfl) ?_
  refine lv_if_ne (tgt := 15) hx hb dX6_sortOf_1 (by decide) (fun c_1 => ?_) (fun c_1 => ?_)
  · skip
    have ic_1 : (ty.toInt : Int) ≠ 0 := ic_ne rfl kI_0 c_1
    refine lv_iload_n hx hb dX6_sortOf_15 rfl (lv_at hl 0 rfl) ?_
    refine lv_iconst (v := 1) hx hb dX6_sortOf_16 (by decide) ?_
    refine lv_icmp_ne (tgt := 40) hx hb dX6_sortOf_17 (by decide) (fun c_2 => ?_) (fun c_2 => ?_)
    · skip
      have ic_2 : (ty.toInt : Int) ≠ 1 := ic_ne rfl kI_1 c_2
      refine lv_iload_n hx hb dX6_sortOf_40 rfl (lv_at hl 1 rfl) ?_
      refine lv_if_ne (tgt := 48) hx hb dX6_sortOf_41 (by decide) (fun c_3 => ?_) (fun c_3 => ?_)
      · skip
        have ic_3 : (j.toInt : Int) ≠ 0 := ic_ne rfl kI_0 c_3
        refine lv_iload_n hx hb dX6_sortOf_48 rfl (lv_at hl 1 rfl) ?_
        refine lv_iconst (v := 3) hx hb dX6_sortOf_49 (by decide) ?_
        refine lv_icmp_ge (tgt := 57) hx hb dX6_sortOf_50 (by decide) (fun c_4 => ?_) (fun c_4 => ?_)
        · skip
          have ic_4 : (3 : Int) ≤ j.toInt := ic_le kI_3 rfl c_4
          refine lv_iconst (v := 1) hx hb dX6_sortOf_57 (by decide) ?_
          exact m_iret (v := 1) hx hb hr hlk hC hH (fun _ => (0, 0)) ⟨rfl, by rw [kI_1]; unfold srtM; (repeat' split) <;> omega⟩ (Nat.le_of_ble_eq_true rfl) (Nat.le_of_ble_eq_true rfl) dX6_sortOf_58
        · skip
          have ic_4 : (3 : Int) > j.toInt := ic_nle kI_3 rfl c_4
          refine lv_iconst (v := 2) hx hb dX6_sortOf_53 (by decide) ?_
          refine lv_goto (tgt := 58) hx hb dX6_sortOf_54 (by decide) ?_
          exact m_iret (v := 2) hx hb hr hlk hC hH (fun _ => (0, 0)) ⟨rfl, by rw [kI_2]; unfold srtM; (repeat' split) <;> omega⟩ (Nat.le_of_ble_eq_true rfl) (Nat.le_of_ble_eq_true rfl) dX6_sortOf_58
      · skip
        have ic_3 : (j.toInt : Int) = 0 := ic_eq rfl kI_0 c_3
        refine lv_iconst (v := 0) hx hb dX6_sortOf_44 (by decide) ?_
        refine lv_goto (tgt := 58) hx hb dX6_sortOf_45 (by decide) ?_
        exact m_iret (v := 0) hx hb hr hlk hC hH (fun _ => (0, 0)) ⟨rfl, by rw [kI_0]; unfold srtM; (repeat' split) <;> omega⟩ (Nat.le_of_ble_eq_true rfl) (Nat.le_of_ble_eq_true rfl) dX6_sortOf_58
    · skip
      have ic_2 : (ty.toInt : Int) = 1 := ic_eq rfl kI_1 c_2
      refine lv_iload_n hx hb dX6_sortOf_20 rfl (lv_at hl 1 rfl) ?_
      refine lv_iconst (v := 3) hx hb dX6_sortOf_21 (by decide) ?_
      refine lv_icmp_ge (tgt := 29) hx hb dX6_sortOf_22 (by decide) (fun c_5 => ?_) (fun c_5 => ?_)
      · skip
        have ic_5 : (3 : Int) ≤ j.toInt := ic_le kI_3 rfl c_5
        refine lv_iload_n hx hb dX6_sortOf_29 rfl (lv_at hl 1 rfl) ?_
        refine lv_iconst (v := 5) hx hb dX6_sortOf_30 (by decide) ?_
        refine lv_icmp_ge (tgt := 38) hx hb dX6_sortOf_31 (by decide) (fun c_6 => ?_) (fun c_6 => ?_)
        · skip
          have ic_6 : (5 : Int) ≤ j.toInt := ic_le kI_5 rfl c_6
          refine lv_iconst (v := 2) hx hb dX6_sortOf_38 (by decide) ?_
          exact m_iret (v := 2) hx hb hr hlk hC hH (fun _ => (0, 0)) ⟨rfl, by rw [kI_2]; unfold srtM; (repeat' split) <;> omega⟩ (Nat.le_of_ble_eq_true rfl) (Nat.le_of_ble_eq_true rfl) dX6_sortOf_39
        · skip
          have ic_6 : (5 : Int) > j.toInt := ic_nle kI_5 rfl c_6
          refine lv_iconst (v := 1) hx hb dX6_sortOf_34 (by decide) ?_
          refine lv_goto (tgt := 39) hx hb dX6_sortOf_35 (by decide) ?_
          exact m_iret (v := 1) hx hb hr hlk hC hH (fun _ => (0, 0)) ⟨rfl, by rw [kI_1]; unfold srtM; (repeat' split) <;> omega⟩ (Nat.le_of_ble_eq_true rfl) (Nat.le_of_ble_eq_true rfl) dX6_sortOf_39
      · skip
        have ic_5 : (3 : Int) > j.toInt := ic_nle kI_3 rfl c_5
        refine lv_iconst (v := 0) hx hb dX6_sortOf_25 (by decide) ?_
        refine lv_goto (tgt := 39) hx hb dX6_sortOf_26 (by decide) ?_
        exact m_iret (v := 0) hx hb hr hlk hC hH (fun _ => (0, 0)) ⟨rfl, by rw [kI_0]; unfold srtM; (repeat' split) <;> omega⟩ (Nat.le_of_ble_eq_true rfl) (Nat.le_of_ble_eq_true rfl) dX6_sortOf_39
  · skip
    have ic_1 : (ty.toInt : Int) = 0 := ic_eq rfl kI_0 c_1
    refine lv_iload_n hx hb dX6_sortOf_4 rfl (lv_at hl 1 rfl) ?_
    refine lv_iconst (v := 2) hx hb dX6_sortOf_5 (by decide) ?_
    refine lv_icmp_ge (tgt := 13) hx hb dX6_sortOf_6 (by decide) (fun c_7 => ?_) (fun c_7 => ?_)
    · skip
      have ic_7 : (2 : Int) ≤ j.toInt := ic_le kI_2 rfl c_7
      refine lv_iconst (v := 1) hx hb dX6_sortOf_13 (by decide) ?_
      exact m_iret (v := 1) hx hb hr hlk hC hH (fun _ => (0, 0)) ⟨rfl, by rw [kI_1]; unfold srtM; (repeat' split) <;> omega⟩ (Nat.le_of_ble_eq_true rfl) (Nat.le_of_ble_eq_true rfl) dX6_sortOf_14
    · skip
      have ic_7 : (2 : Int) > j.toInt := ic_nle kI_2 rfl c_7
      refine lv_iconst (v := 0) hx hb dX6_sortOf_9 (by decide) ?_
      refine lv_goto (tgt := 14) hx hb dX6_sortOf_10 (by decide) ?_
      exact m_iret (v := 0) hx hb hr hlk hC hH (fun _ => (0, 0)) ⟨rfl, by rw [kI_0]; unfold srtM; (repeat' split) <;> omega⟩ (Nat.le_of_ble_eq_true rfl) (Nat.le_of_ble_eq_true rfl) dX6_sortOf_14
set_option maxHeartbeats 4000000 in
set_option maxRecDepth 100000 in
theorem c_X6_has (l : Launch) (G : mG) (h : Nat → Nat) (n : Nat) (T : Nat → Int32) (z : Nat → Nat) (A : Nat → tA) (f : mF) (hI : IM G h n T z A f) (o j st : Int32) : Met l yX6_has wsX6_has ({ frames := 2, cells := 0, slots := 0, locals := 46 }) (va_Pc [.ref (h 0), .int o, .int j, .int st] (mW G f)) (va_Qi (fun (r : Int32) (u : mS) => u.2 = f ∧ ((r.toInt = 1 ∧ 0 ≤ o.toInt ∧ o.toInt < n ∧ 0 ≤ j.toInt ∧ j.toInt < fldM (T o.toNatClampNeg).toInt ∧ srtM (T o.toNatClampNeg).toInt j.toInt = st.toInt) ∨ r.toInt = 0)) (fun (u : mS) t => mW G u.2 t) (mA G)) 0 0 (mA G) := by
  refine mMet [.ref (h 0), .int o, .int j, .int st] (cc := cX6_has) (maxL := 4) (ret := (some .boolean)) (by decide) rfl (Nat.le_of_ble_eq_true rfl) ?_
  intro p e s m below meth c ls hx hb hr hml hts hown hlk hnm hC hH hl
  have hl : lv_has ls 4 [(0, .ref (h 0)), (1, .int o), (2, .int j), (3, .int st)] := hl
  have hj := hI.2.2.1
  have hn24 := hI.2.2.2.1
  have nIn : (nI n).toInt = (n : Int) := nI_toInt (by omega)
  have hfr : frM h f f := frM.rf
  have hkp : kpM h f f := kpM.rf
  refine lv_aload_n hx hb dX6_has_0 rfl (lv_at hl 0 rfl) ?_
  refine lv_iload_n hx hb dX6_has_1 rfl (lv_at hl 1 rfl) ?_
  obtain ⟨he_4, fe_4, ca_4, ga_4, wh_4, tm_4, wm_4, ac_4, th_4, st_4, F_4, b1_4, b2_4, b3_4, b4_4, b5_4, b6_4, b7_4, b8_4⟩ : okM0 h n (f (h 0)) := hI.1 0 (by decide)
  refine m_goi hH (va_runV (As := [.int o]) (rest := []) ⟨hx, hb, hml, hown, hts⟩ (c_X6_isObject l G h n T z A f hI o) (cwV 1 hts gX6_has_X6_isObject rfl rfl rfl (by decide +kernel) ⟨Nat.le_of_ble_eq_true rfl, Nat.le_of_ble_eq_true rfl⟩) (m_preV (ci := 6) hC hH F_4 rfl) rfl rfl hl.1 rfl (lv_room (Nat.le_of_ble_eq_true rfl)) dX6_has_2 ⟨Nat.le_of_ble_eq_true rfl, Nat.le_of_ble_eq_true rfl⟩) (fun r_1 rho_3 f_2 H locs hw hH => ?_)
  obtain ⟨hu, hr_1⟩ := hw
  have hu : f_2 = f := hu
  rw [hu] at hH
  refine lv_if_eq (tgt := 47) hx hb dX6_has_5 (by decide) (fun c_5 => ?_) (fun c_5 => ?_)
  · skip
    have ic_5 : (r_1.toInt : Int) = 0 := ic_eq rfl kI_0 c_5
    refine lv_iconst (v := 0) hx hb dX6_has_47 (by decide) ?_
    exact m_zret (v := 0) hx hb hr (by rfl) hlk hC hH (fun _ => (0, 0)) ⟨rfl, Or.inr kI_0⟩ (Nat.le_of_ble_eq_true rfl) (Nat.le_of_ble_eq_true rfl) dX6_has_48
  · skip
    have ic_5 : (r_1.toInt : Int) ≠ 0 := ic_ne rfl kI_0 c_5
    refine lv_iload_n hx hb dX6_has_8 rfl (lv_at hl 2 rfl) ?_
    refine lv_i2l hx hb dX6_has_9 rfl ?_
    refine lv_topl (fun y_6 ey_6 => ?_)
    have iy_6 : y_6.toInt = j.toInt := lc_i2l ey_6 rfl
    have gy_6 := ic_rng j
    refine lv_lconst (v := 0) hx hb dX6_has_10 (by decide) ?_
    refine lv_aload_n hx hb dX6_has_11 rfl (lv_at hl 0 rfl) ?_
    refine m_get (ci := 6) (v := .ref (h 1)) (C := RX6) (T := TX6) (N := 30) hx hb hC hH hts in_X6_has_X6 hown F_4 rfl 1 (by decide) (hts (.fieldLink RX6 7 "LazyStateModel" "types" "[I") (by decide +kernel)) rfl dX6_has_12 ?_
    refine lv_iload_n hx hb dX6_has_15 rfl (lv_at hl 1 rfl) ?_
    obtain ⟨g_7, hg_7, hp_7⟩ : okI G 0 24 (fun g => ∀ o, o < n → g o = T o) (f (h 1)) := hI.1 1 (by decide)
    refine m_iald hx hb hC hH hg_7 (vp_in_iff.mpr ⟨by omega, by omega⟩) dX6_has_16 ?_
    refine lv_topi (fun x_8 ex_8 => ?_)
    have tx_8 : x_8 = T o.toNatClampNeg := by rw [ex_8]; exact hp_7 (o.toNatClampNeg) (ic_cl rfl (by omega) (by omega))
    refine m_goi hH (va_runS (As := [.int x_8]) (rest := [.long 0, .long y_6]) ⟨hx, hb, hml, hown, hts⟩ (c_X6_fieldsOf l G f x_8) (va_cwS 1 hts gX6_has_X6_fieldsOf rfl rfl rfl (by decide +kernel) ⟨Nat.le_of_ble_eq_true rfl, Nat.le_of_ble_eq_true rfl⟩) (m_preS hC hH) rfl rfl hl.1 rfl (lv_room (Nat.le_of_ble_eq_true rfl)) dX6_has_17 ⟨Nat.le_of_ble_eq_true rfl, Nat.le_of_ble_eq_true rfl⟩) (fun r_9 rho_11 f_10 H locs hw hH => ?_)
    obtain ⟨hu, hr_9⟩ := hw
    have hu : f_10 = f := hu
    rw [hu] at hH
    have br_9 : 3 ≤ r_9.toInt ∧ r_9.toInt ≤ 6 := by rw [hr_9]; unfold fldM; (repeat' split) <;> omega
    refine lv_iconst (v := 1) hx hb dX6_has_20 (by decide) ?_
    refine lv_isub hx hb dX6_has_21 ?_
    refine lv_topi (fun x_12 ex_12 => ?_)
    have ix_12 : x_12.toInt = r_9.toInt - 1 := ic_sub ex_12 rfl kI_1 (by omega) (by omega)
    refine lv_i2l hx hb dX6_has_22 rfl ?_
    refine lv_topl (fun y_13 ey_13 => ?_)
    have iy_13 : y_13.toInt = x_12.toInt := lc_i2l ey_13 rfl
    have gy_13 := ic_rng x_12
    refine m_goi hH (va_runS (As := [.long y_6, .long 0, .long y_13]) (rest := []) ⟨hx, hb, hml, hown, hts⟩ (c_X6_in l G f y_6 0 y_13) (va_cwS 3 hts gX6_has_X6_in rfl rfl rfl (by decide +kernel) ⟨Nat.le_of_ble_eq_true rfl, Nat.le_of_ble_eq_true rfl⟩) (m_preS hC hH) rfl rfl hl.1 rfl (lv_room (Nat.le_of_ble_eq_true rfl)) dX6_has_23 ⟨Nat.le_of_ble_eq_true rfl, Nat.le_of_ble_eq_true rfl⟩) (fun r_14 rho_16 f_15 H locs hw hH => ?_)
    obtain ⟨hu, hr_14⟩ := hw
    have hu : f_15 = f := hu
    rw [hu] at hH
    have hr_14 : (r_14.toInt = 1 ∧ 0 ≤ y_6.toInt ∧ y_6.toInt ≤ y_13.toInt) ∨ (r_14.toInt = 0 ∧ (y_6.toInt < 0 ∨ y_13.toInt < y_6.toInt)) := by have q0 := (rfl : y_6.toInt = _); have q1 := kJ_0; have q2 := (rfl : y_13.toInt = _); omega
    refine lv_if_eq (tgt := 47) hx hb dX6_has_26 (by decide) (fun c_17 => ?_) (fun c_17 => ?_)
    · skip
      have ic_17 : (r_14.toInt : Int) = 0 := ic_eq rfl kI_0 c_17
      refine lv_iconst (v := 0) hx hb dX6_has_47 (by decide) ?_
      exact m_zret (v := 0) hx hb hr (by rfl) hlk hC hH (fun _ => (0, 0)) ⟨rfl, Or.inr kI_0⟩ (Nat.le_of_ble_eq_true rfl) (Nat.le_of_ble_eq_true rfl) dX6_has_48
    · skip
      have ic_17 : (r_14.toInt : Int) ≠ 0 := ic_ne rfl kI_0 c_17
      refine lv_aload_n hx hb dX6_has_29 rfl (lv_at hl 0 rfl) ?_
      refine m_get (ci := 6) (v := .ref (h 1)) (C := RX6) (T := TX6) (N := 30) hx hb hC hH hts in_X6_has_X6 hown F_4 rfl 1 (by decide) (hts (.fieldLink RX6 7 "LazyStateModel" "types" "[I") (by decide +kernel)) rfl dX6_has_30 ?_
      refine lv_iload_n hx hb dX6_has_33 rfl (lv_at hl 1 rfl) ?_
      refine m_iald hx hb hC hH hg_7 (vp_in_iff.mpr ⟨by omega, by omega⟩) dX6_has_34 ?_
      refine lv_topi (fun x_18 ex_18 => ?_)
      have tx_18 : x_18 = T o.toNatClampNeg := by rw [ex_18]; exact hp_7 (o.toNatClampNeg) (ic_cl rfl (by omega) (by omega))
      refine lv_iload_n hx hb dX6_has_35 rfl (lv_at hl 2 rfl) ?_
      refine m_goi hH (va_runS (As := [.int x_18, .int j]) (rest := []) ⟨hx, hb, hml, hown, hts⟩ (c_X6_sortOf l G f x_18 j) (va_cwS 2 hts gX6_has_X6_sortOf rfl rfl rfl (by decide +kernel) ⟨Nat.le_of_ble_eq_true rfl, Nat.le_of_ble_eq_true rfl⟩) (m_preS hC hH) rfl rfl hl.1 rfl (lv_room (Nat.le_of_ble_eq_true rfl)) dX6_has_36 ⟨Nat.le_of_ble_eq_true rfl, Nat.le_of_ble_eq_true rfl⟩) (fun r_19 rho_21 f_20 H locs hw hH => ?_)
      obtain ⟨hu, hr_19⟩ := hw
      have hu : f_20 = f := hu
      rw [hu] at hH
      refine lv_iload_n hx hb dX6_has_39 rfl (lv_at hl 3 rfl) ?_
      refine lv_icmp_ne (tgt := 47) hx hb dX6_has_40 (by decide) (fun c_22 => ?_) (fun c_22 => ?_)
      · skip
        have ic_22 : (r_19.toInt : Int) ≠ st.toInt := ic_ne rfl rfl c_22
        refine lv_iconst (v := 0) hx hb dX6_has_47 (by decide) ?_
        exact m_zret (v := 0) hx hb hr (by rfl) hlk hC hH (fun _ => (0, 0)) ⟨rfl, Or.inr kI_0⟩ (Nat.le_of_ble_eq_true rfl) (Nat.le_of_ble_eq_true rfl) dX6_has_48
      · skip
        have ic_22 : (r_19.toInt : Int) = st.toInt := ic_eq rfl rfl c_22
        refine lv_iconst (v := 1) hx hb dX6_has_43 (by decide) ?_
        refine lv_goto (tgt := 48) hx hb dX6_has_44 (by decide) ?_
        exact m_zret (v := 1) hx hb hr (by rfl) hlk hC hH (fun _ => (0, 0)) ⟨rfl, Or.inl ⟨kI_1, by omega, by omega, by omega, by rw [← tx_8]; omega, by rw [← tx_18]; omega⟩⟩ (Nat.le_of_ble_eq_true rfl) (Nat.le_of_ble_eq_true rfl) dX6_has_48
