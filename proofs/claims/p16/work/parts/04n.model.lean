set_option maxHeartbeats 4000000 in
set_option maxRecDepth 100000 in
theorem c_X6_in (l : Launch) (G : mG) (f : mF) (v lo hi : Int64) : Met l yX6_in wsX6_in ({ frames := 0, cells := 0, slots := 0, locals := 0 }) (va_Pc [.long v, .long lo, .long hi] (mW G f)) (va_Qi (fun (r : Int32) (u : mS) => u.2 = f ∧ ((r.toInt = 1 ∧ lo.toInt ≤ v.toInt ∧ v.toInt ≤ hi.toInt) ∨ (r.toInt = 0 ∧ (v.toInt < lo.toInt ∨ hi.toInt < v.toInt)))) (fun (u : mS) t => mW G u.2 t) (mA G)) 0 0 (mA G) := by
  refine mMet [.long v, .long lo, .long hi] (cc := cX6_in) (maxL := 6) (ret := (some .boolean)) (by decide) rfl (Nat.le_of_ble_eq_true rfl) ?_
  intro p e s m below meth c ls hx hb hr hml hts hown hlk hnm hC hH hl
  have hl : lv_has ls 6 [(0, .long v), (2, .long lo), (4, .long hi)] := hl
  refine lv_lload_n hx hb dX6_in_0 rfl (lv_at hl 0 rfl) ?_
  refine lv_lload_n hx hb dX6_in_1 rfl (lv_at hl 1 rfl) ?_
  refine W.lcmp hx hb dX6_in_2 ?_
  refine lv_if_lt (tgt := 17) hx hb dX6_in_3 (by decide) (fun c_1 => ?_) (fun c_1 => ?_)
  · skip
    have ic_1 : (v.toInt : Int) < lo.toInt := lc_lt rfl rfl ((lg_cmp_lt _ _).mp c_1)
    refine lv_iconst (v := 0) hx hb dX6_in_17 (by decide) ?_
    exact m_zret (v := 0) hx hb hr (by rfl) hlk hC hH (fun _ => (0, 0)) ⟨rfl, by have := kI_0; omega⟩ (Nat.le_of_ble_eq_true rfl) (Nat.le_of_ble_eq_true rfl) dX6_in_18
  · skip
    have ic_1 : (v.toInt : Int) ≥ lo.toInt := lc_nlt rfl rfl (fun q_ => c_1 ((lg_cmp_lt _ _).mpr q_))
    refine lv_lload_n hx hb dX6_in_6 rfl (lv_at hl 0 rfl) ?_
    refine lv_lload hx hb dX6_in_7 (lv_at hl 2 rfl) ?_
    refine W.lcmp hx hb dX6_in_9 ?_
    refine lv_if_gt (tgt := 17) hx hb dX6_in_10 (by decide) (fun c_2 => ?_) (fun c_2 => ?_)
    · skip
      have ic_2 : (hi.toInt : Int) < v.toInt := lc_lt rfl rfl ((lg_cmp_gt _ _).mp c_2)
      refine lv_iconst (v := 0) hx hb dX6_in_17 (by decide) ?_
      exact m_zret (v := 0) hx hb hr (by rfl) hlk hC hH (fun _ => (0, 0)) ⟨rfl, by have := kI_0; omega⟩ (Nat.le_of_ble_eq_true rfl) (Nat.le_of_ble_eq_true rfl) dX6_in_18
    · skip
      have ic_2 : (hi.toInt : Int) ≥ v.toInt := lc_nlt rfl rfl (fun q_ => c_2 ((lg_cmp_gt _ _).mpr q_))
      refine lv_iconst (v := 1) hx hb dX6_in_13 (by decide) ?_
      refine lv_goto (tgt := 18) hx hb dX6_in_14 (by decide) ?_
      exact m_zret (v := 1) hx hb hr (by rfl) hlk hC hH (fun _ => (0, 0)) ⟨rfl, by have := kI_1; omega⟩ (Nat.le_of_ble_eq_true rfl) (Nat.le_of_ble_eq_true rfl) dX6_in_18
set_option maxHeartbeats 4000000 in
set_option maxRecDepth 100000 in
theorem c_X6_fieldsOf (l : Launch) (G : mG) (f : mF) (ty : Int32) : Met l yX6_fieldsOf wsX6_fieldsOf ({ frames := 0, cells := 0, slots := 0, locals := 0 }) (va_Pc [.int ty] (mW G f)) (va_Qi (fun (r : Int32) (u : mS) => u.2 = f ∧ r.toInt = fldM ty.toInt) (fun (u : mS) t => mW G u.2 t) (mA G)) 0 0 (mA G) := by
  refine mMet [.int ty] (cc := cX6_fieldsOf) (maxL := 1) (ret := (some .int)) (by decide) rfl (Nat.le_of_ble_eq_true rfl) ?_
  intro p e s m below meth c ls hx hb hr hml hts hown hlk hnm hC hH hl
  have hl : lv_has ls 1 [(0, .int ty)] := hl
  refine lv_iload_n hx hb dX6_fieldsOf_0 rfl (lv_at hl 0 rfl) ?_
  refine lv_if_ne (tgt := 8) hx hb dX6_fieldsOf_1 (by decide) (fun c_1 => ?_) (fun c_1 => ?_)
  · skip
    have ic_1 : (ty.toInt : Int) ≠ 0 := ic_ne rfl kI_0 c_1
    refine lv_iload_n hx hb dX6_fieldsOf_8 rfl (lv_at hl 0 rfl) ?_
    refine lv_iconst (v := 1) hx hb dX6_fieldsOf_9 (by decide) ?_
    refine lv_icmp_ne (tgt := 18) hx hb dX6_fieldsOf_10 (by decide) (fun c_2 => ?_) (fun c_2 => ?_)
    · skip
      have ic_2 : (ty.toInt : Int) ≠ 1 := ic_ne rfl kI_1 c_2
      refine lv_iconst (v := 4) hx hb dX6_fieldsOf_18 (by decide) ?_
      exact m_iret (v := 4) hx hb hr hlk hC hH (fun _ => (0, 0)) ⟨rfl, by rw [kI_4]; unfold fldM; (repeat' split) <;> omega⟩ (Nat.le_of_ble_eq_true rfl) (Nat.le_of_ble_eq_true rfl) dX6_fieldsOf_19
    · skip
      have ic_2 : (ty.toInt : Int) = 1 := ic_eq rfl kI_1 c_2
      refine lv_bipush (v := 6) hx hb dX6_fieldsOf_13 (by decide) ?_
      refine lv_goto (tgt := 19) hx hb dX6_fieldsOf_15 (by decide) ?_
      exact m_iret (v := 6) hx hb hr hlk hC hH (fun _ => (0, 0)) ⟨rfl, by rw [kI_6]; unfold fldM; (repeat' split) <;> omega⟩ (Nat.le_of_ble_eq_true rfl) (Nat.le_of_ble_eq_true rfl) dX6_fieldsOf_19
  · skip
    have ic_1 : (ty.toInt : Int) = 0 := ic_eq rfl kI_0 c_1
    refine lv_iconst (v := 3) hx hb dX6_fieldsOf_4 (by decide) ?_
    refine lv_goto (tgt := 19) hx hb dX6_fieldsOf_5 (by decide) ?_
    exact m_iret (v := 3) hx hb hr hlk hC hH (fun _ => (0, 0)) ⟨rfl, by rw [kI_3]; unfold fldM; (repeat' split) <;> omega⟩ (Nat.le_of_ble_eq_true rfl) (Nat.le_of_ble_eq_true rfl) dX6_fieldsOf_19
set_option maxHeartbeats 4000000 in
set_option maxRecDepth 100000 in
theorem c_X6_sortOf (l : Launch) (G : mG) (f : mF) (ty j : Int32) : Met l yX6_sortOf wsX6_sortOf ({ frames := 0, cells := 0, slots := 0, locals := 0 }) (va_Pc [.int ty, .int j] (mW G f)) (va_Qi (fun (r : Int32) (u : mS) => u.2 = f ∧ r.toInt = srtM ty.toInt j.toInt) (fun (u : mS) t => mW G u.2 t) (mA G)) 0 0 (mA G) := by
  refine mMet [.int ty, .int j] (cc := cX6_sortOf) (maxL := 2) (ret := (some .int)) (by decide) rfl (Nat.le_of_ble_eq_true rfl) ?_
  intro p e s m below meth c ls hx hb hr hml hts hown hlk hnm hC hH hl
  have hl : lv_has ls 2 [(0, .int ty), (1, .int j)] := hl
  refine lv_iload_n hx hb dX6_sortOf_0 rfl (lv_at hl 0 rfl) ?_
  refine lv_if_ne (tgt := 15) hx hb dX6_sortOf_1 (by decide) (fun c_1 => ?_) (fun c_1 => ?_)
  · skip
    have ic_1 : (ty.toInt : Int) ≠ 0 := ic_ne rfl kI_0 c_1
    refine lv_iload_n hx hb dX6_sortOf_15 rfl (lv_at hl 0 rfl) ?_
    refine lv_iconst (v := 1) hx hb dX6_sortOf_16 (by decide) ?_
    refine lv_icmp_ne (tgt := 40) hx hb dX6_sortOf_17 (by decide) (fun c_2 => ?_) (fun c_2 => ?_)
    · skip
      have ic_2 : (ty.toInt : Int) ≠ 1 := ic_ne rfl kI_1 c_2
      refine lv_iload_n hx hb dX6_sortOf_40 rfl (lv_at hl 1 rfl) ?_
      refine lv_if_ne (tgt := 48) hx hb dX6_sortOf_41 (by decide) (fun c_3 => ?_) (fun c_3 => ?_)
      · skip
        have ic_3 : (j.toInt : Int) ≠ 0 := ic_ne rfl kI_0 c_3
        refine lv_iload_n hx hb dX6_sortOf_48 rfl (lv_at hl 1 rfl) ?_
        refine lv_iconst (v := 3) hx hb dX6_sortOf_49 (by decide) ?_
        refine lv_icmp_ge (tgt := 57) hx hb dX6_sortOf_50 (by decide) (fun c_4 => ?_) (fun c_4 => ?_)
        · skip
          have ic_4 : (3 : Int) ≤ j.toInt := ic_le kI_3 rfl c_4
          refine lv_iconst (v := 1) hx hb dX6_sortOf_57 (by decide) ?_
          exact m_iret (v := 1) hx hb hr hlk hC hH (fun _ => (0, 0)) ⟨rfl, by rw [kI_1]; unfold srtM; (repeat' split) <;> omega⟩ (Nat.le_of_ble_eq_true rfl) (Nat.le_of_ble_eq_true rfl) dX6_sortOf_58
        · skip
          have ic_4 : (3 : Int) > j.toInt := ic_nle kI_3 rfl c_4
          refine lv_iconst (v := 2) hx hb dX6_sortOf_53 (by decide) ?_
          refine lv_goto (tgt := 58) hx hb dX6_sortOf_54 (by decide) ?_
          exact m_iret (v := 2) hx hb hr hlk hC hH (fun _ => (0, 0)) ⟨rfl, by rw [kI_2]; unfold srtM; (repeat' split) <;> omega⟩ (Nat.le_of_ble_eq_true rfl) (Nat.le_of_ble_eq_true rfl) dX6_sortOf_58
      · skip
        have ic_3 : (j.toInt : Int) = 0 := ic_eq rfl kI_0 c_3
        refine lv_iconst (v := 0) hx hb dX6_sortOf_44 (by decide) ?_
        refine lv_goto (tgt := 58) hx hb dX6_sortOf_45 (by decide) ?_
        exact m_iret (v := 0) hx hb hr hlk hC hH (fun _ => (0, 0)) ⟨rfl, by rw [kI_0]; unfold srtM; (repeat' split) <;> omega⟩ (Nat.le_of_ble_eq_true rfl) (Nat.le_of_ble_eq_true rfl) dX6_sortOf_58
    · skip
      have ic_2 : (ty.toInt : Int) = 1 := ic_eq rfl kI_1 c_2
      refine lv_iload_n hx hb dX6_sortOf_20 rfl (lv_at hl 1 rfl) ?_
      refine lv_iconst (v := 3) hx hb dX6_sortOf_21 (by decide) ?_
      refine lv_icmp_ge (tgt := 29) hx hb dX6_sortOf_22 (by decide) (fun c_5 => ?_) (fun c_5 => ?_)
      · skip
        have ic_5 : (3 : Int) ≤ j.toInt := ic_le kI_3 rfl c_5
        refine lv_iload_n hx hb dX6_sortOf_29 rfl (lv_at hl 1 rfl) ?_
        refine lv_iconst (v := 5) hx hb dX6_sortOf_30 (by decide) ?_
        refine lv_icmp_ge (tgt := 38) hx hb dX6_sortOf_31 (by decide) (fun c_6 => ?_) (fun c_6 => ?_)
        · skip
          have ic_6 : (5 : Int) ≤ j.toInt := ic_le kI_5 rfl c_6
          refine lv_iconst (v := 2) hx hb dX6_sortOf_38 (by decide) ?_
          exact m_iret (v := 2) hx hb hr hlk hC hH (fun _ => (0, 0)) ⟨rfl, by rw [kI_2]; unfold srtM; (repeat' split) <;> omega⟩ (Nat.le_of_ble_eq_true rfl) (Nat.le_of_ble_eq_true rfl) dX6_sortOf_39
        · skip
          have ic_6 : (5 : Int) > j.toInt := ic_nle kI_5 rfl c_6
          refine lv_iconst (v := 1) hx hb dX6_sortOf_34 (by decide) ?_
          refine lv_goto (tgt := 39) hx hb dX6_sortOf_35 (by decide) ?_
          exact m_iret (v := 1) hx hb hr hlk hC hH (fun _ => (0, 0)) ⟨rfl, by rw [kI_1]; unfold srtM; (repeat' split) <;> omega⟩ (Nat.le_of_ble_eq_true rfl) (Nat.le_of_ble_eq_true rfl) dX6_sortOf_39
      · skip
        have ic_5 : (3 : Int) > j.toInt := ic_nle kI_3 rfl c_5
        refine lv_iconst (v := 0) hx hb dX6_sortOf_25 (by decide) ?_
        refine lv_goto (tgt := 39) hx hb dX6_sortOf_26 (by decide) ?_
        exact m_iret (v := 0) hx hb hr hlk hC hH (fun _ => (0, 0)) ⟨rfl, by rw [kI_0]; unfold srtM; (repeat' split) <;> omega⟩ (Nat.le_of_ble_eq_true rfl) (Nat.le_of_ble_eq_true rfl) dX6_sortOf_39
  · skip
    have ic_1 : (ty.toInt : Int) = 0 := ic_eq rfl kI_0 c_1
    refine lv_iload_n hx hb dX6_sortOf_4 rfl (lv_at hl 1 rfl) ?_
    refine lv_iconst (v := 2) hx hb dX6_sortOf_5 (by decide) ?_
    refine lv_icmp_ge (tgt := 13) hx hb dX6_sortOf_6 (by decide) (fun c_7 => ?_) (fun c_7 => ?_)
    · skip
      have ic_7 : (2 : Int) ≤ j.toInt := ic_le kI_2 rfl c_7
      refine lv_iconst (v := 1) hx hb dX6_sortOf_13 (by decide) ?_
      exact m_iret (v := 1) hx hb hr hlk hC hH (fun _ => (0, 0)) ⟨rfl, by rw [kI_1]; unfold srtM; (repeat' split) <;> omega⟩ (Nat.le_of_ble_eq_true rfl) (Nat.le_of_ble_eq_true rfl) dX6_sortOf_14
    · skip
      have ic_7 : (2 : Int) > j.toInt := ic_nle kI_2 rfl c_7
      refine lv_iconst (v := 0) hx hb dX6_sortOf_9 (by decide) ?_
      refine lv_goto (tgt := 14) hx hb dX6_sortOf_10 (by decide) ?_
      exact m_iret (v := 0) hx hb hr hlk hC hH (fun _ => (0, 0)) ⟨rfl, by rw [kI_0]; unfold srtM; (repeat' split) <;> omega⟩ (Nat.le_of_ble_eq_true rfl) (Nat.le_of_ble_eq_true rfl) dX6_sortOf_14
set_option maxHeartbeats 4000000 in
set_option maxRecDepth 100000 in
theorem c_X6_four (l : Launch) (G : mG) (f : mF) (v : Int64) : Met l yX6_four wsX6_four ({ frames := 1, cells := 0, slots := 0, locals := 25 }) (va_Pc [.long v] (mW G f)) (va_Qi (fun (r : Int32) (u : mS) => u.2 = f ∧ ((r.toInt = 1 ∧ 0 ≤ v.toInt ∧ v.toInt ≤ 3) ∨ (r.toInt = 0 ∧ (v.toInt < 0 ∨ 3 < v.toInt)))) (fun (u : mS) t => mW G u.2 t) (mA G)) 0 0 (mA G) := by
  refine mMet [.long v] (cc := cX6_four) (maxL := 2) (ret := (some .boolean)) (by decide) rfl (Nat.le_of_ble_eq_true rfl) ?_
  intro p e s m below meth c ls hx hb hr hml hts hown hlk hnm hC hH hl
  have hl : lv_has ls 2 [(0, .long v)] := hl
  refine lv_lload_n hx hb dX6_four_0 rfl (lv_at hl 0 rfl) ?_
  refine lv_lconst (v := 0) hx hb dX6_four_1 (by decide) ?_
  refine lv_ldc2 (v := 3) hx hb hown (hts (.constantLong RX6 130 (3)) (by decide +kernel)) dX6_four_2 ?_
  refine m_goi hH (va_runS (As := [.long v, .long 0, .long 3]) (rest := []) ⟨hx, hb, hml, hown, hts⟩ (c_X6_in l G f v 0 3) (va_cwS 3 hts gX6_four_X6_in rfl rfl rfl (by decide +kernel) ⟨Nat.le_of_ble_eq_true rfl, Nat.le_of_ble_eq_true rfl⟩) (m_preS hC hH) rfl rfl hl.1 rfl (lv_room (Nat.le_of_ble_eq_true rfl)) dX6_four_5 ⟨Nat.le_of_ble_eq_true rfl, Nat.le_of_ble_eq_true rfl⟩) (fun r_1 rho_3 f_2 H locs hw hH => ?_)
  obtain ⟨hu, hr_1⟩ := hw
  have hu : f_2 = f := hu
  rw [hu] at hH
  have hr_1 : (r_1.toInt = 1 ∧ 0 ≤ v.toInt ∧ v.toInt ≤ 3) ∨ (r_1.toInt = 0 ∧ (v.toInt < 0 ∨ 3 < v.toInt)) := by have q0 := (rfl : v.toInt = _); have q1 := kJ_0; have q2 := kJ_3; omega
  exact m_zret (v := r_1) hx hb hr (ic_nar _ (by omega)) hlk hC hH (fun _ => (0, 0)) ⟨rfl, by have := kJ_0; have := kJ_3; omega⟩ (Nat.le_of_ble_eq_true rfl) (Nat.le_of_ble_eq_true rfl) dX6_four_8
set_option maxHeartbeats 4000000 in
set_option maxRecDepth 100000 in
theorem c_X6_eight (l : Launch) (G : mG) (f : mF) (v : Int64) : Met l yX6_eight wsX6_eight ({ frames := 1, cells := 0, slots := 0, locals := 25 }) (va_Pc [.long v] (mW G f)) (va_Qi (fun (r : Int32) (u : mS) => u.2 = f ∧ ((r.toInt = 1 ∧ 0 ≤ v.toInt ∧ v.toInt ≤ 7) ∨ (r.toInt = 0 ∧ (v.toInt < 0 ∨ 7 < v.toInt)))) (fun (u : mS) t => mW G u.2 t) (mA G)) 0 0 (mA G) := by
  refine mMet [.long v] (cc := cX6_eight) (maxL := 2) (ret := (some .boolean)) (by decide) rfl (Nat.le_of_ble_eq_true rfl) ?_
  intro p e s m below meth c ls hx hb hr hml hts hown hlk hnm hC hH hl
  have hl : lv_has ls 2 [(0, .long v)] := hl
  refine lv_lload_n hx hb dX6_eight_0 rfl (lv_at hl 0 rfl) ?_
  refine lv_lconst (v := 0) hx hb dX6_eight_1 (by decide) ?_
  refine lv_ldc2 (v := 7) hx hb hown (hts (.constantLong RX6 132 (7)) (by decide +kernel)) dX6_eight_2 ?_
  refine m_goi hH (va_runS (As := [.long v, .long 0, .long 7]) (rest := []) ⟨hx, hb, hml, hown, hts⟩ (c_X6_in l G f v 0 7) (va_cwS 3 hts gX6_eight_X6_in rfl rfl rfl (by decide +kernel) ⟨Nat.le_of_ble_eq_true rfl, Nat.le_of_ble_eq_true rfl⟩) (m_preS hC hH) rfl rfl hl.1 rfl (lv_room (Nat.le_of_ble_eq_true rfl)) dX6_eight_5 ⟨Nat.le_of_ble_eq_true rfl, Nat.le_of_ble_eq_true rfl⟩) (fun r_1 rho_3 f_2 H locs hw hH => ?_)
  obtain ⟨hu, hr_1⟩ := hw
  have hu : f_2 = f := hu
  rw [hu] at hH
  have hr_1 : (r_1.toInt = 1 ∧ 0 ≤ v.toInt ∧ v.toInt ≤ 7) ∨ (r_1.toInt = 0 ∧ (v.toInt < 0 ∨ 7 < v.toInt)) := by have q0 := (rfl : v.toInt = _); have q1 := kJ_0; have q2 := kJ_7; omega
  exact m_zret (v := r_1) hx hb hr (ic_nar _ (by omega)) hlk hC hH (fun _ => (0, 0)) ⟨rfl, by have := kJ_0; have := kJ_7; omega⟩ (Nat.le_of_ble_eq_true rfl) (Nat.le_of_ble_eq_true rfl) dX6_eight_8
set_option maxHeartbeats 4000000 in
set_option maxRecDepth 100000 in
theorem c_X6_isAct (l : Launch) (G : mG) (f : mF) (kd a : Int32) (b : Int64) (c_ d_ e_ : Int32) : Met l yX6_isAct wsX6_isAct ({ frames := 2, cells := 0, slots := 0, locals := 46 }) (va_Pc [.int kd, .int a, .long b, .int c_, .int d_, .int e_] (mW G f)) (va_Qi (fun (r : Int32) (u : mS) => u.2 = f ∧ ((r.toInt = 1 ∧ okA (kd, a, b, c_, d_, e_)) ∨ (r.toInt = 0 ∧ ¬ okA (kd, a, b, c_, d_, e_)))) (fun (u : mS) t => mW G u.2 t) (mA G)) 0 0 (mA G) := by
  refine mMet [.int kd, .int a, .long b, .int c_, .int d_, .int e_] (cc := cX6_isAct) (maxL := 7) (ret := (some .boolean)) (by decide) rfl (Nat.le_of_ble_eq_true rfl) ?_
  intro p e s m below meth c ls hx hb hr hml hts hown hlk hnm hC hH hl
  have hl : lv_has ls 7 [(0, .int kd), (1, .int a), (2, .long b), (4, .int c_), (5, .int d_), (6, .int e_)] := hl
  refine lv_iload_n hx hb dX6_isAct_0 rfl (lv_at hl 0 rfl) ?_
  have hk_1 : (kd.toInt < 0 ∨ 16 < kd.toInt) ∨ kd.toInt = 0 ∨ kd.toInt = 1 ∨ kd.toInt = 2 ∨ kd.toInt = 3 ∨ kd.toInt = 4 ∨ kd.toInt = 5 ∨ kd.toInt = 6 ∨ kd.toInt = 7 ∨ kd.toInt = 8 ∨ kd.toInt = 9 ∨ kd.toInt = 10 ∨ kd.toInt = 11 ∨ kd.toInt = 12 ∨ kd.toInt = 13 ∨ kd.toInt = 14 ∨ kd.toInt = 15 ∨ kd.toInt = 16 := by omega
  rcases hk_1 with hk_1 | hk_1 | hk_1 | hk_1 | hk_1 | hk_1 | hk_1 | hk_1 | hk_1 | hk_1 | hk_1 | hk_1 | hk_1 | hk_1 | hk_1 | hk_1 | hk_1 | hk_1
  · skip
    refine lv_tableOut (tgt := 340) hx hb dX6_isAct_1 hk_1 (by decide) ?_
    refine lv_iload_n hx hb dX6_isAct_340 rfl (lv_at hl 0 rfl) ?_
    refine lv_bipush (v := 17) hx hb dX6_isAct_341 (by decide) ?_
    refine lv_icmp_ne (tgt := 350) hx hb dX6_isAct_343 (by decide) (fun c_2 => ?_) (fun c_2 => ?_)
    · skip
      have ic_2 : (kd.toInt : Int) ≠ 17 := ic_ne rfl kI_17 c_2
      refine lv_iconst (v := 0) hx hb dX6_isAct_350 (by decide) ?_
      exact m_zret (v := 0) hx hb hr (by rfl) hlk hC hH (fun _ => (0, 0)) ⟨rfl, Or.inr ⟨kI_0, fun q => by have := okA_rng6 q; omega⟩⟩ (Nat.le_of_ble_eq_true rfl) (Nat.le_of_ble_eq_true rfl) dX6_isAct_351
    · skip
      have ic_2 : (kd.toInt : Int) = 17 := ic_eq rfl kI_17 c_2
      refine lv_iconst (v := 1) hx hb dX6_isAct_346 (by decide) ?_
      refine lv_goto (tgt := 351) hx hb dX6_isAct_347 (by decide) ?_
      exact m_zret (v := 1) hx hb hr (by rfl) hlk hC hH (fun _ => (0, 0)) ⟨rfl, Or.inl ⟨kI_1, okA_mk6 17 (by decide) (by omega) (Or.inl rfl) (Or.inl rfl) (Or.inl rfl) (Or.inl rfl) (Or.inl rfl)⟩⟩ (Nat.le_of_ble_eq_true rfl) (Nat.le_of_ble_eq_true rfl) dX6_isAct_351
  · skip
    have jk_1 : kd.toInt = 0 := hk_1
    refine lv_tableIn (off := 83) (tgt := 84) hx hb dX6_isAct_1 (by rw [jk_1]; decide) (by rw [jk_1]; decide) (by rw [jk_1]; rfl) (by decide) ?_
    refine lv_iload_n hx hb dX6_isAct_84 rfl (lv_at hl 1 rfl) ?_
    refine lv_i2l hx hb dX6_isAct_85 rfl ?_
    refine lv_topl (fun y_3 ey_3 => ?_)
    have iy_3 : y_3.toInt = a.toInt := lc_i2l ey_3 rfl
    have gy_3 := ic_rng a
    refine m_goi hH (va_runS (As := [.long y_3]) (rest := []) ⟨hx, hb, hml, hown, hts⟩ (c_X6_four l G f y_3) (va_cwS 1 hts gX6_isAct_X6_four rfl rfl rfl (by decide +kernel) ⟨Nat.le_of_ble_eq_true rfl, Nat.le_of_ble_eq_true rfl⟩) (m_preS hC hH) rfl rfl hl.1 rfl (lv_room (Nat.le_of_ble_eq_true rfl)) dX6_isAct_86 ⟨Nat.le_of_ble_eq_true rfl, Nat.le_of_ble_eq_true rfl⟩) (fun r_4 rho_6 f_5 H locs hw hH => ?_)
    obtain ⟨hu, hr_4⟩ := hw
    have hu : f_5 = f := hu
    rw [hu] at hH
    exact m_zret (v := r_4) hx hb hr (ic_nar _ (by omega)) hlk hC hH (fun _ => (0, 0)) ⟨rfl, by rcases hr_4 with hh_ | hh_; exact Or.inl ⟨hh_.1, okA_mk6 0 (by decide) jk_1 (fit_in (m := 3) rfl kI_3 (by omega) (by omega)) (Or.inl rfl) (Or.inl rfl) (Or.inl rfl) (Or.inl rfl)⟩; exact Or.inr ⟨hh_.1, okA_no6 0 jk_1 (fun f0 f1 f2 f3 f4 => by have g0 := fit_get (m := 3) rfl (by decide) kI_3 f0; omega)⟩⟩ (Nat.le_of_ble_eq_true rfl) (Nat.le_of_ble_eq_true rfl) dX6_isAct_89
  · skip
    have jk_1 : kd.toInt = 1 := hk_1
    refine lv_tableIn (off := 89) (tgt := 90) hx hb dX6_isAct_1 (by rw [jk_1]; decide) (by rw [jk_1]; decide) (by rw [jk_1]; rfl) (by decide) ?_
    refine lv_iload_n hx hb dX6_isAct_90 rfl (lv_at hl 1 rfl) ?_
    refine lv_i2l hx hb dX6_isAct_91 rfl ?_
    refine lv_topl (fun y_7 ey_7 => ?_)
    have iy_7 : y_7.toInt = a.toInt := lc_i2l ey_7 rfl
    have gy_7 := ic_rng a
    refine m_goi hH (va_runS (As := [.long y_7]) (rest := []) ⟨hx, hb, hml, hown, hts⟩ (c_X6_four l G f y_7) (va_cwS 1 hts gX6_isAct_X6_four rfl rfl rfl (by decide +kernel) ⟨Nat.le_of_ble_eq_true rfl, Nat.le_of_ble_eq_true rfl⟩) (m_preS hC hH) rfl rfl hl.1 rfl (lv_room (Nat.le_of_ble_eq_true rfl)) dX6_isAct_92 ⟨Nat.le_of_ble_eq_true rfl, Nat.le_of_ble_eq_true rfl⟩) (fun r_8 rho_10 f_9 H locs hw hH => ?_)
    obtain ⟨hu, hr_8⟩ := hw
    have hu : f_9 = f := hu
    rw [hu] at hH
    refine lv_if_eq (tgt := 118) hx hb dX6_isAct_95 (by decide) (fun c_11 => ?_) (fun c_11 => ?_)
    · skip
      have ic_11 : (r_8.toInt : Int) = 0 := ic_eq rfl kI_0 c_11
      refine lv_iconst (v := 0) hx hb dX6_isAct_118 (by decide) ?_
      exact m_zret (v := 0) hx hb hr (by rfl) hlk hC hH (fun _ => (0, 0)) ⟨rfl, Or.inr ⟨kI_0, okA_no6 1 jk_1 (fun f0 f1 f2 f3 f4 => by have g0 := fit_get (m := 3) rfl (by decide) kI_3 f0; have g1 := fit_get (m := 3) rfl (by decide) kI_3 f1; have g2 := fit_get (m := 3) rfl (by decide) kI_3 f2; omega)⟩⟩ (Nat.le_of_ble_eq_true rfl) (Nat.le_of_ble_eq_true rfl) dX6_isAct_119
    · skip
      have ic_11 : (r_8.toInt : Int) ≠ 0 := ic_ne rfl kI_0 c_11
      refine lv_lload_n hx hb dX6_isAct_98 rfl (lv_at hl 2 rfl) ?_
      refine m_goi hH (va_runS (As := [.long b]) (rest := []) ⟨hx, hb, hml, hown, hts⟩ (c_X6_four l G f b) (va_cwS 1 hts gX6_isAct_X6_four rfl rfl rfl (by decide +kernel) ⟨Nat.le_of_ble_eq_true rfl, Nat.le_of_ble_eq_true rfl⟩) (m_preS hC hH) rfl rfl hl.1 rfl (lv_room (Nat.le_of_ble_eq_true rfl)) dX6_isAct_99 ⟨Nat.le_of_ble_eq_true rfl, Nat.le_of_ble_eq_true rfl⟩) (fun r_12 rho_14 f_13 H locs hw hH => ?_)
      obtain ⟨hu, hr_12⟩ := hw
      have hu : f_13 = f := hu
      rw [hu] at hH
      refine lv_if_eq (tgt := 118) hx hb dX6_isAct_102 (by decide) (fun c_15 => ?_) (fun c_15 => ?_)
      · skip
        have ic_15 : (r_12.toInt : Int) = 0 := ic_eq rfl kI_0 c_15
        refine lv_iconst (v := 0) hx hb dX6_isAct_118 (by decide) ?_
        exact m_zret (v := 0) hx hb hr (by rfl) hlk hC hH (fun _ => (0, 0)) ⟨rfl, Or.inr ⟨kI_0, okA_no6 1 jk_1 (fun f0 f1 f2 f3 f4 => by have g0 := fit_get (m := 3) rfl (by decide) kI_3 f0; have g1 := fit_get (m := 3) rfl (by decide) kI_3 f1; have g2 := fit_get (m := 3) rfl (by decide) kI_3 f2; omega)⟩⟩ (Nat.le_of_ble_eq_true rfl) (Nat.le_of_ble_eq_true rfl) dX6_isAct_119
      · skip
        have ic_15 : (r_12.toInt : Int) ≠ 0 := ic_ne rfl kI_0 c_15
        refine lv_iload hx hb dX6_isAct_105 (lv_at hl 3 rfl) ?_
        refine lv_i2l hx hb dX6_isAct_107 rfl ?_
        refine lv_topl (fun y_16 ey_16 => ?_)
        have iy_16 : y_16.toInt = c_.toInt := lc_i2l ey_16 rfl
        have gy_16 := ic_rng c_
        refine m_goi hH (va_runS (As := [.long y_16]) (rest := []) ⟨hx, hb, hml, hown, hts⟩ (c_X6_four l G f y_16) (va_cwS 1 hts gX6_isAct_X6_four rfl rfl rfl (by decide +kernel) ⟨Nat.le_of_ble_eq_true rfl, Nat.le_of_ble_eq_true rfl⟩) (m_preS hC hH) rfl rfl hl.1 rfl (lv_room (Nat.le_of_ble_eq_true rfl)) dX6_isAct_108 ⟨Nat.le_of_ble_eq_true rfl, Nat.le_of_ble_eq_true rfl⟩) (fun r_17 rho_19 f_18 H locs hw hH => ?_)
        obtain ⟨hu, hr_17⟩ := hw
        have hu : f_18 = f := hu
        rw [hu] at hH
        refine lv_if_eq (tgt := 118) hx hb dX6_isAct_111 (by decide) (fun c_20 => ?_) (fun c_20 => ?_)
        · skip
          have ic_20 : (r_17.toInt : Int) = 0 := ic_eq rfl kI_0 c_20
          refine lv_iconst (v := 0) hx hb dX6_isAct_118 (by decide) ?_
          exact m_zret (v := 0) hx hb hr (by rfl) hlk hC hH (fun _ => (0, 0)) ⟨rfl, Or.inr ⟨kI_0, okA_no6 1 jk_1 (fun f0 f1 f2 f3 f4 => by have g0 := fit_get (m := 3) rfl (by decide) kI_3 f0; have g1 := fit_get (m := 3) rfl (by decide) kI_3 f1; have g2 := fit_get (m := 3) rfl (by decide) kI_3 f2; omega)⟩⟩ (Nat.le_of_ble_eq_true rfl) (Nat.le_of_ble_eq_true rfl) dX6_isAct_119
        · skip
          have ic_20 : (r_17.toInt : Int) ≠ 0 := ic_ne rfl kI_0 c_20
          refine lv_iconst (v := 1) hx hb dX6_isAct_114 (by decide) ?_
          refine lv_goto (tgt := 119) hx hb dX6_isAct_115 (by decide) ?_
          exact m_zret (v := 1) hx hb hr (by rfl) hlk hC hH (fun _ => (0, 0)) ⟨rfl, Or.inl ⟨kI_1, okA_mk6 1 (by decide) jk_1 (fit_in (m := 3) rfl kI_3 (by omega) (by omega)) (fit_in (m := 3) rfl kI_3 (by omega) (by omega)) (fit_in (m := 3) rfl kI_3 (by omega) (by omega)) (Or.inl rfl) (Or.inl rfl)⟩⟩ (Nat.le_of_ble_eq_true rfl) (Nat.le_of_ble_eq_true rfl) dX6_isAct_119
  · skip
    have jk_1 : kd.toInt = 2 := hk_1
    refine lv_tableIn (off := 89) (tgt := 90) hx hb dX6_isAct_1 (by rw [jk_1]; decide) (by rw [jk_1]; decide) (by rw [jk_1]; rfl) (by decide) ?_
    refine lv_iload_n hx hb dX6_isAct_90 rfl (lv_at hl 1 rfl) ?_
    refine lv_i2l hx hb dX6_isAct_91 rfl ?_
    refine lv_topl (fun y_21 ey_21 => ?_)
    have iy_21 : y_21.toInt = a.toInt := lc_i2l ey_21 rfl
    have gy_21 := ic_rng a
    refine m_goi hH (va_runS (As := [.long y_21]) (rest := []) ⟨hx, hb, hml, hown, hts⟩ (c_X6_four l G f y_21) (va_cwS 1 hts gX6_isAct_X6_four rfl rfl rfl (by decide +kernel) ⟨Nat.le_of_ble_eq_true rfl, Nat.le_of_ble_eq_true rfl⟩) (m_preS hC hH) rfl rfl hl.1 rfl (lv_room (Nat.le_of_ble_eq_true rfl)) dX6_isAct_92 ⟨Nat.le_of_ble_eq_true rfl, Nat.le_of_ble_eq_true rfl⟩) (fun r_22 rho_24 f_23 H locs hw hH => ?_)
    obtain ⟨hu, hr_22⟩ := hw
    have hu : f_23 = f := hu
    rw [hu] at hH
    refine lv_if_eq (tgt := 118) hx hb dX6_isAct_95 (by decide) (fun c_25 => ?_) (fun c_25 => ?_)
    · skip
      have ic_25 : (r_22.toInt : Int) = 0 := ic_eq rfl kI_0 c_25
      refine lv_iconst (v := 0) hx hb dX6_isAct_118 (by decide) ?_
      exact m_zret (v := 0) hx hb hr (by rfl) hlk hC hH (fun _ => (0, 0)) ⟨rfl, Or.inr ⟨kI_0, okA_no6 2 jk_1 (fun f0 f1 f2 f3 f4 => by have g0 := fit_get (m := 3) rfl (by decide) kI_3 f0; have g1 := fit_get (m := 3) rfl (by decide) kI_3 f1; have g2 := fit_get (m := 3) rfl (by decide) kI_3 f2; omega)⟩⟩ (Nat.le_of_ble_eq_true rfl) (Nat.le_of_ble_eq_true rfl) dX6_isAct_119
    · skip
      have ic_25 : (r_22.toInt : Int) ≠ 0 := ic_ne rfl kI_0 c_25
      refine lv_lload_n hx hb dX6_isAct_98 rfl (lv_at hl 2 rfl) ?_
      refine m_goi hH (va_runS (As := [.long b]) (rest := []) ⟨hx, hb, hml, hown, hts⟩ (c_X6_four l G f b) (va_cwS 1 hts gX6_isAct_X6_four rfl rfl rfl (by decide +kernel) ⟨Nat.le_of_ble_eq_true rfl, Nat.le_of_ble_eq_true rfl⟩) (m_preS hC hH) rfl rfl hl.1 rfl (lv_room (Nat.le_of_ble_eq_true rfl)) dX6_isAct_99 ⟨Nat.le_of_ble_eq_true rfl, Nat.le_of_ble_eq_true rfl⟩) (fun r_26 rho_28 f_27 H locs hw hH => ?_)
      obtain ⟨hu, hr_26⟩ := hw
      have hu : f_27 = f := hu
      rw [hu] at hH
      refine lv_if_eq (tgt := 118) hx hb dX6_isAct_102 (by decide) (fun c_29 => ?_) (fun c_29 => ?_)
      · skip
        have ic_29 : (r_26.toInt : Int) = 0 := ic_eq rfl kI_0 c_29
        refine lv_iconst (v := 0) hx hb dX6_isAct_118 (by decide) ?_
        exact m_zret (v := 0) hx hb hr (by rfl) hlk hC hH (fun _ => (0, 0)) ⟨rfl, Or.inr ⟨kI_0, okA_no6 2 jk_1 (fun f0 f1 f2 f3 f4 => by have g0 := fit_get (m := 3) rfl (by decide) kI_3 f0; have g1 := fit_get (m := 3) rfl (by decide) kI_3 f1; have g2 := fit_get (m := 3) rfl (by decide) kI_3 f2; omega)⟩⟩ (Nat.le_of_ble_eq_true rfl) (Nat.le_of_ble_eq_true rfl) dX6_isAct_119
      · skip
        have ic_29 : (r_26.toInt : Int) ≠ 0 := ic_ne rfl kI_0 c_29
        refine lv_iload hx hb dX6_isAct_105 (lv_at hl 3 rfl) ?_
        refine lv_i2l hx hb dX6_isAct_107 rfl ?_
        refine lv_topl (fun y_30 ey_30 => ?_)
        have iy_30 : y_30.toInt = c_.toInt := lc_i2l ey_30 rfl
        have gy_30 := ic_rng c_
        refine m_goi hH (va_runS (As := [.long y_30]) (rest := []) ⟨hx, hb, hml, hown, hts⟩ (c_X6_four l G f y_30) (va_cwS 1 hts gX6_isAct_X6_four rfl rfl rfl (by decide +kernel) ⟨Nat.le_of_ble_eq_true rfl, Nat.le_of_ble_eq_true rfl⟩) (m_preS hC hH) rfl rfl hl.1 rfl (lv_room (Nat.le_of_ble_eq_true rfl)) dX6_isAct_108 ⟨Nat.le_of_ble_eq_true rfl, Nat.le_of_ble_eq_true rfl⟩) (fun r_31 rho_33 f_32 H locs hw hH => ?_)
        obtain ⟨hu, hr_31⟩ := hw
        have hu : f_32 = f := hu
        rw [hu] at hH
        refine lv_if_eq (tgt := 118) hx hb dX6_isAct_111 (by decide) (fun c_34 => ?_) (fun c_34 => ?_)
        · skip
          have ic_34 : (r_31.toInt : Int) = 0 := ic_eq rfl kI_0 c_34
          refine lv_iconst (v := 0) hx hb dX6_isAct_118 (by decide) ?_
          exact m_zret (v := 0) hx hb hr (by rfl) hlk hC hH (fun _ => (0, 0)) ⟨rfl, Or.inr ⟨kI_0, okA_no6 2 jk_1 (fun f0 f1 f2 f3 f4 => by have g0 := fit_get (m := 3) rfl (by decide) kI_3 f0; have g1 := fit_get (m := 3) rfl (by decide) kI_3 f1; have g2 := fit_get (m := 3) rfl (by decide) kI_3 f2; omega)⟩⟩ (Nat.le_of_ble_eq_true rfl) (Nat.le_of_ble_eq_true rfl) dX6_isAct_119
        · skip
          have ic_34 : (r_31.toInt : Int) ≠ 0 := ic_ne rfl kI_0 c_34
          refine lv_iconst (v := 1) hx hb dX6_isAct_114 (by decide) ?_
          refine lv_goto (tgt := 119) hx hb dX6_isAct_115 (by decide) ?_
          exact m_zret (v := 1) hx hb hr (by rfl) hlk hC hH (fun _ => (0, 0)) ⟨rfl, Or.inl ⟨kI_1, okA_mk6 2 (by decide) jk_1 (fit_in (m := 3) rfl kI_3 (by omega) (by omega)) (fit_in (m := 3) rfl kI_3 (by omega) (by omega)) (fit_in (m := 3) rfl kI_3 (by omega) (by omega)) (Or.inl rfl) (Or.inl rfl)⟩⟩ (Nat.le_of_ble_eq_true rfl) (Nat.le_of_ble_eq_true rfl) dX6_isAct_119
  · skip
    have jk_1 : kd.toInt = 3 := hk_1
    refine lv_tableIn (off := 89) (tgt := 90) hx hb dX6_isAct_1 (by rw [jk_1]; decide) (by rw [jk_1]; decide) (by rw [jk_1]; rfl) (by decide) ?_
    refine lv_iload_n hx hb dX6_isAct_90 rfl (lv_at hl 1 rfl) ?_
    refine lv_i2l hx hb dX6_isAct_91 rfl ?_
    refine lv_topl (fun y_35 ey_35 => ?_)
    have iy_35 : y_35.toInt = a.toInt := lc_i2l ey_35 rfl
    have gy_35 := ic_rng a
    refine m_goi hH (va_runS (As := [.long y_35]) (rest := []) ⟨hx, hb, hml, hown, hts⟩ (c_X6_four l G f y_35) (va_cwS 1 hts gX6_isAct_X6_four rfl rfl rfl (by decide +kernel) ⟨Nat.le_of_ble_eq_true rfl, Nat.le_of_ble_eq_true rfl⟩) (m_preS hC hH) rfl rfl hl.1 rfl (lv_room (Nat.le_of_ble_eq_true rfl)) dX6_isAct_92 ⟨Nat.le_of_ble_eq_true rfl, Nat.le_of_ble_eq_true rfl⟩) (fun r_36 rho_38 f_37 H locs hw hH => ?_)
    obtain ⟨hu, hr_36⟩ := hw
    have hu : f_37 = f := hu
    rw [hu] at hH
    refine lv_if_eq (tgt := 118) hx hb dX6_isAct_95 (by decide) (fun c_39 => ?_) (fun c_39 => ?_)
    · skip
      have ic_39 : (r_36.toInt : Int) = 0 := ic_eq rfl kI_0 c_39
      refine lv_iconst (v := 0) hx hb dX6_isAct_118 (by decide) ?_
      exact m_zret (v := 0) hx hb hr (by rfl) hlk hC hH (fun _ => (0, 0)) ⟨rfl, Or.inr ⟨kI_0, okA_no6 3 jk_1 (fun f0 f1 f2 f3 f4 => by have g0 := fit_get (m := 3) rfl (by decide) kI_3 f0; have g1 := fit_get (m := 3) rfl (by decide) kI_3 f1; have g2 := fit_get (m := 3) rfl (by decide) kI_3 f2; omega)⟩⟩ (Nat.le_of_ble_eq_true rfl) (Nat.le_of_ble_eq_true rfl) dX6_isAct_119
    · skip
      have ic_39 : (r_36.toInt : Int) ≠ 0 := ic_ne rfl kI_0 c_39
      refine lv_lload_n hx hb dX6_isAct_98 rfl (lv_at hl 2 rfl) ?_
      refine m_goi hH (va_runS (As := [.long b]) (rest := []) ⟨hx, hb, hml, hown, hts⟩ (c_X6_four l G f b) (va_cwS 1 hts gX6_isAct_X6_four rfl rfl rfl (by decide +kernel) ⟨Nat.le_of_ble_eq_true rfl, Nat.le_of_ble_eq_true rfl⟩) (m_preS hC hH) rfl rfl hl.1 rfl (lv_room (Nat.le_of_ble_eq_true rfl)) dX6_isAct_99 ⟨Nat.le_of_ble_eq_true rfl, Nat.le_of_ble_eq_true rfl⟩) (fun r_40 rho_42 f_41 H locs hw hH => ?_)
      obtain ⟨hu, hr_40⟩ := hw
      have hu : f_41 = f := hu
      rw [hu] at hH
      refine lv_if_eq (tgt := 118) hx hb dX6_isAct_102 (by decide) (fun c_43 => ?_) (fun c_43 => ?_)
      · skip
        have ic_43 : (r_40.toInt : Int) = 0 := ic_eq rfl kI_0 c_43
        refine lv_iconst (v := 0) hx hb dX6_isAct_118 (by decide) ?_
        exact m_zret (v := 0) hx hb hr (by rfl) hlk hC hH (fun _ => (0, 0)) ⟨rfl, Or.inr ⟨kI_0, okA_no6 3 jk_1 (fun f0 f1 f2 f3 f4 => by have g0 := fit_get (m := 3) rfl (by decide) kI_3 f0; have g1 := fit_get (m := 3) rfl (by decide) kI_3 f1; have g2 := fit_get (m := 3) rfl (by decide) kI_3 f2; omega)⟩⟩ (Nat.le_of_ble_eq_true rfl) (Nat.le_of_ble_eq_true rfl) dX6_isAct_119
      · skip
        have ic_43 : (r_40.toInt : Int) ≠ 0 := ic_ne rfl kI_0 c_43
        refine lv_iload hx hb dX6_isAct_105 (lv_at hl 3 rfl) ?_
        refine lv_i2l hx hb dX6_isAct_107 rfl ?_
        refine lv_topl (fun y_44 ey_44 => ?_)
        have iy_44 : y_44.toInt = c_.toInt := lc_i2l ey_44 rfl
        have gy_44 := ic_rng c_
        refine m_goi hH (va_runS (As := [.long y_44]) (rest := []) ⟨hx, hb, hml, hown, hts⟩ (c_X6_four l G f y_44) (va_cwS 1 hts gX6_isAct_X6_four rfl rfl rfl (by decide +kernel) ⟨Nat.le_of_ble_eq_true rfl, Nat.le_of_ble_eq_true rfl⟩) (m_preS hC hH) rfl rfl hl.1 rfl (lv_room (Nat.le_of_ble_eq_true rfl)) dX6_isAct_108 ⟨Nat.le_of_ble_eq_true rfl, Nat.le_of_ble_eq_true rfl⟩) (fun r_45 rho_47 f_46 H locs hw hH => ?_)
        obtain ⟨hu, hr_45⟩ := hw
        have hu : f_46 = f := hu
        rw [hu] at hH
        refine lv_if_eq (tgt := 118) hx hb dX6_isAct_111 (by decide) (fun c_48 => ?_) (fun c_48 => ?_)
        · skip
          have ic_48 : (r_45.toInt : Int) = 0 := ic_eq rfl kI_0 c_48
          refine lv_iconst (v := 0) hx hb dX6_isAct_118 (by decide) ?_
          exact m_zret (v := 0) hx hb hr (by rfl) hlk hC hH (fun _ => (0, 0)) ⟨rfl, Or.inr ⟨kI_0, okA_no6 3 jk_1 (fun f0 f1 f2 f3 f4 => by have g0 := fit_get (m := 3) rfl (by decide) kI_3 f0; have g1 := fit_get (m := 3) rfl (by decide) kI_3 f1; have g2 := fit_get (m := 3) rfl (by decide) kI_3 f2; omega)⟩⟩ (Nat.le_of_ble_eq_true rfl) (Nat.le_of_ble_eq_true rfl) dX6_isAct_119
        · skip
          have ic_48 : (r_45.toInt : Int) ≠ 0 := ic_ne rfl kI_0 c_48
          refine lv_iconst (v := 1) hx hb dX6_isAct_114 (by decide) ?_
          refine lv_goto (tgt := 119) hx hb dX6_isAct_115 (by decide) ?_
          exact m_zret (v := 1) hx hb hr (by rfl) hlk hC hH (fun _ => (0, 0)) ⟨rfl, Or.inl ⟨kI_1, okA_mk6 3 (by decide) jk_1 (fit_in (m := 3) rfl kI_3 (by omega) (by omega)) (fit_in (m := 3) rfl kI_3 (by omega) (by omega)) (fit_in (m := 3) rfl kI_3 (by omega) (by omega)) (Or.inl rfl) (Or.inl rfl)⟩⟩ (Nat.le_of_ble_eq_true rfl) (Nat.le_of_ble_eq_true rfl) dX6_isAct_119
  · skip
    have jk_1 : kd.toInt = 4 := hk_1
    refine lv_tableIn (off := 119) (tgt := 120) hx hb dX6_isAct_1 (by rw [jk_1]; decide) (by rw [jk_1]; decide) (by rw [jk_1]; rfl) (by decide) ?_
    refine lv_iload_n hx hb dX6_isAct_120 rfl (lv_at hl 1 rfl) ?_
    refine lv_i2l hx hb dX6_isAct_121 rfl ?_
    refine lv_topl (fun y_49 ey_49 => ?_)
    have iy_49 : y_49.toInt = a.toInt := lc_i2l ey_49 rfl
    have gy_49 := ic_rng a
    refine m_goi hH (va_runS (As := [.long y_49]) (rest := []) ⟨hx, hb, hml, hown, hts⟩ (c_X6_four l G f y_49) (va_cwS 1 hts gX6_isAct_X6_four rfl rfl rfl (by decide +kernel) ⟨Nat.le_of_ble_eq_true rfl, Nat.le_of_ble_eq_true rfl⟩) (m_preS hC hH) rfl rfl hl.1 rfl (lv_room (Nat.le_of_ble_eq_true rfl)) dX6_isAct_122 ⟨Nat.le_of_ble_eq_true rfl, Nat.le_of_ble_eq_true rfl⟩) (fun r_50 rho_52 f_51 H locs hw hH => ?_)
    obtain ⟨hu, hr_50⟩ := hw
    have hu : f_51 = f := hu
    rw [hu] at hH
    refine lv_if_eq (tgt := 148) hx hb dX6_isAct_125 (by decide) (fun c_53 => ?_) (fun c_53 => ?_)
    · skip
      have ic_53 : (r_50.toInt : Int) = 0 := ic_eq rfl kI_0 c_53
      refine lv_iconst (v := 0) hx hb dX6_isAct_148 (by decide) ?_
      exact m_zret (v := 0) hx hb hr (by rfl) hlk hC hH (fun _ => (0, 0)) ⟨rfl, Or.inr ⟨kI_0, okA_no6 4 jk_1 (fun f0 f1 f2 f3 f4 => by have g0 := fit_get (m := 3) rfl (by decide) kI_3 f0; have g1 := fit_get (m := 3) rfl (by decide) kI_3 f1; have g2 := fit_get (m := 7) rfl (by decide) kI_7 f2; omega)⟩⟩ (Nat.le_of_ble_eq_true rfl) (Nat.le_of_ble_eq_true rfl) dX6_isAct_149
    · skip
      have ic_53 : (r_50.toInt : Int) ≠ 0 := ic_ne rfl kI_0 c_53
      refine lv_lload_n hx hb dX6_isAct_128 rfl (lv_at hl 2 rfl) ?_
      refine m_goi hH (va_runS (As := [.long b]) (rest := []) ⟨hx, hb, hml, hown, hts⟩ (c_X6_four l G f b) (va_cwS 1 hts gX6_isAct_X6_four rfl rfl rfl (by decide +kernel) ⟨Nat.le_of_ble_eq_true rfl, Nat.le_of_ble_eq_true rfl⟩) (m_preS hC hH) rfl rfl hl.1 rfl (lv_room (Nat.le_of_ble_eq_true rfl)) dX6_isAct_129 ⟨Nat.le_of_ble_eq_true rfl, Nat.le_of_ble_eq_true rfl⟩) (fun r_54 rho_56 f_55 H locs hw hH => ?_)
      obtain ⟨hu, hr_54⟩ := hw
      have hu : f_55 = f := hu
      rw [hu] at hH
      refine lv_if_eq (tgt := 148) hx hb dX6_isAct_132 (by decide) (fun c_57 => ?_) (fun c_57 => ?_)
      · skip
        have ic_57 : (r_54.toInt : Int) = 0 := ic_eq rfl kI_0 c_57
        refine lv_iconst (v := 0) hx hb dX6_isAct_148 (by decide) ?_
        exact m_zret (v := 0) hx hb hr (by rfl) hlk hC hH (fun _ => (0, 0)) ⟨rfl, Or.inr ⟨kI_0, okA_no6 4 jk_1 (fun f0 f1 f2 f3 f4 => by have g0 := fit_get (m := 3) rfl (by decide) kI_3 f0; have g1 := fit_get (m := 3) rfl (by decide) kI_3 f1; have g2 := fit_get (m := 7) rfl (by decide) kI_7 f2; omega)⟩⟩ (Nat.le_of_ble_eq_true rfl) (Nat.le_of_ble_eq_true rfl) dX6_isAct_149
      · skip
        have ic_57 : (r_54.toInt : Int) ≠ 0 := ic_ne rfl kI_0 c_57
        refine lv_iload hx hb dX6_isAct_135 (lv_at hl 3 rfl) ?_
        refine lv_i2l hx hb dX6_isAct_137 rfl ?_
        refine lv_topl (fun y_58 ey_58 => ?_)
        have iy_58 : y_58.toInt = c_.toInt := lc_i2l ey_58 rfl
        have gy_58 := ic_rng c_
        refine m_goi hH (va_runS (As := [.long y_58]) (rest := []) ⟨hx, hb, hml, hown, hts⟩ (c_X6_eight l G f y_58) (va_cwS 1 hts gX6_isAct_X6_eight rfl rfl rfl (by decide +kernel) ⟨Nat.le_of_ble_eq_true rfl, Nat.le_of_ble_eq_true rfl⟩) (m_preS hC hH) rfl rfl hl.1 rfl (lv_room (Nat.le_of_ble_eq_true rfl)) dX6_isAct_138 ⟨Nat.le_of_ble_eq_true rfl, Nat.le_of_ble_eq_true rfl⟩) (fun r_59 rho_61 f_60 H locs hw hH => ?_)
        obtain ⟨hu, hr_59⟩ := hw
        have hu : f_60 = f := hu
        rw [hu] at hH
        refine lv_if_eq (tgt := 148) hx hb dX6_isAct_141 (by decide) (fun c_62 => ?_) (fun c_62 => ?_)
        · skip
          have ic_62 : (r_59.toInt : Int) = 0 := ic_eq rfl kI_0 c_62
          refine lv_iconst (v := 0) hx hb dX6_isAct_148 (by decide) ?_
          exact m_zret (v := 0) hx hb hr (by rfl) hlk hC hH (fun _ => (0, 0)) ⟨rfl, Or.inr ⟨kI_0, okA_no6 4 jk_1 (fun f0 f1 f2 f3 f4 => by have g0 := fit_get (m := 3) rfl (by decide) kI_3 f0; have g1 := fit_get (m := 3) rfl (by decide) kI_3 f1; have g2 := fit_get (m := 7) rfl (by decide) kI_7 f2; omega)⟩⟩ (Nat.le_of_ble_eq_true rfl) (Nat.le_of_ble_eq_true rfl) dX6_isAct_149
        · skip
          have ic_62 : (r_59.toInt : Int) ≠ 0 := ic_ne rfl kI_0 c_62
          refine lv_iconst (v := 1) hx hb dX6_isAct_144 (by decide) ?_
          refine lv_goto (tgt := 149) hx hb dX6_isAct_145 (by decide) ?_
          exact m_zret (v := 1) hx hb hr (by rfl) hlk hC hH (fun _ => (0, 0)) ⟨rfl, Or.inl ⟨kI_1, okA_mk6 4 (by decide) jk_1 (fit_in (m := 3) rfl kI_3 (by omega) (by omega)) (fit_in (m := 3) rfl kI_3 (by omega) (by omega)) (fit_in (m := 7) rfl kI_7 (by omega) (by omega)) (Or.inl rfl) (Or.inl rfl)⟩⟩ (Nat.le_of_ble_eq_true rfl) (Nat.le_of_ble_eq_true rfl) dX6_isAct_149
  · skip
    have jk_1 : kd.toInt = 5 := hk_1
    refine lv_tableIn (off := 149) (tgt := 150) hx hb dX6_isAct_1 (by rw [jk_1]; decide) (by rw [jk_1]; decide) (by rw [jk_1]; rfl) (by decide) ?_
    refine lv_iload_n hx hb dX6_isAct_150 rfl (lv_at hl 1 rfl) ?_
    refine lv_i2l hx hb dX6_isAct_151 rfl ?_
    refine lv_topl (fun y_63 ey_63 => ?_)
    have iy_63 : y_63.toInt = a.toInt := lc_i2l ey_63 rfl
    have gy_63 := ic_rng a
    refine m_goi hH (va_runS (As := [.long y_63]) (rest := []) ⟨hx, hb, hml, hown, hts⟩ (c_X6_four l G f y_63) (va_cwS 1 hts gX6_isAct_X6_four rfl rfl rfl (by decide +kernel) ⟨Nat.le_of_ble_eq_true rfl, Nat.le_of_ble_eq_true rfl⟩) (m_preS hC hH) rfl rfl hl.1 rfl (lv_room (Nat.le_of_ble_eq_true rfl)) dX6_isAct_152 ⟨Nat.le_of_ble_eq_true rfl, Nat.le_of_ble_eq_true rfl⟩) (fun r_64 rho_66 f_65 H locs hw hH => ?_)
    obtain ⟨hu, hr_64⟩ := hw
    have hu : f_65 = f := hu
    rw [hu] at hH
    refine lv_if_eq (tgt := 178) hx hb dX6_isAct_155 (by decide) (fun c_67 => ?_) (fun c_67 => ?_)
    · skip
      have ic_67 : (r_64.toInt : Int) = 0 := ic_eq rfl kI_0 c_67
      refine lv_iconst (v := 0) hx hb dX6_isAct_178 (by decide) ?_
      exact m_zret (v := 0) hx hb hr (by rfl) hlk hC hH (fun _ => (0, 0)) ⟨rfl, Or.inr ⟨kI_0, okA_no6 5 jk_1 (fun f0 f1 f2 f3 f4 => by have g0 := fit_get (m := 3) rfl (by decide) kI_3 f0; have g1 := fit_get (m := 7) rfl (by decide) kI_7 f1; have g2 := fit_get (m := 3) rfl (by decide) kI_3 f2; omega)⟩⟩ (Nat.le_of_ble_eq_true rfl) (Nat.le_of_ble_eq_true rfl) dX6_isAct_179
    · skip
      have ic_67 : (r_64.toInt : Int) ≠ 0 := ic_ne rfl kI_0 c_67
      refine lv_lload_n hx hb dX6_isAct_158 rfl (lv_at hl 2 rfl) ?_
      refine m_goi hH (va_runS (As := [.long b]) (rest := []) ⟨hx, hb, hml, hown, hts⟩ (c_X6_eight l G f b) (va_cwS 1 hts gX6_isAct_X6_eight rfl rfl rfl (by decide +kernel) ⟨Nat.le_of_ble_eq_true rfl, Nat.le_of_ble_eq_true rfl⟩) (m_preS hC hH) rfl rfl hl.1 rfl (lv_room (Nat.le_of_ble_eq_true rfl)) dX6_isAct_159 ⟨Nat.le_of_ble_eq_true rfl, Nat.le_of_ble_eq_true rfl⟩) (fun r_68 rho_70 f_69 H locs hw hH => ?_)
      obtain ⟨hu, hr_68⟩ := hw
      have hu : f_69 = f := hu
      rw [hu] at hH
      refine lv_if_eq (tgt := 178) hx hb dX6_isAct_162 (by decide) (fun c_71 => ?_) (fun c_71 => ?_)
      · skip
        have ic_71 : (r_68.toInt : Int) = 0 := ic_eq rfl kI_0 c_71
        refine lv_iconst (v := 0) hx hb dX6_isAct_178 (by decide) ?_
        exact m_zret (v := 0) hx hb hr (by rfl) hlk hC hH (fun _ => (0, 0)) ⟨rfl, Or.inr ⟨kI_0, okA_no6 5 jk_1 (fun f0 f1 f2 f3 f4 => by have g0 := fit_get (m := 3) rfl (by decide) kI_3 f0; have g1 := fit_get (m := 7) rfl (by decide) kI_7 f1; have g2 := fit_get (m := 3) rfl (by decide) kI_3 f2; omega)⟩⟩ (Nat.le_of_ble_eq_true rfl) (Nat.le_of_ble_eq_true rfl) dX6_isAct_179
      · skip
        have ic_71 : (r_68.toInt : Int) ≠ 0 := ic_ne rfl kI_0 c_71
        refine lv_iload hx hb dX6_isAct_165 (lv_at hl 3 rfl) ?_
        refine lv_i2l hx hb dX6_isAct_167 rfl ?_
        refine lv_topl (fun y_72 ey_72 => ?_)
        have iy_72 : y_72.toInt = c_.toInt := lc_i2l ey_72 rfl
        have gy_72 := ic_rng c_
        refine m_goi hH (va_runS (As := [.long y_72]) (rest := []) ⟨hx, hb, hml, hown, hts⟩ (c_X6_four l G f y_72) (va_cwS 1 hts gX6_isAct_X6_four rfl rfl rfl (by decide +kernel) ⟨Nat.le_of_ble_eq_true rfl, Nat.le_of_ble_eq_true rfl⟩) (m_preS hC hH) rfl rfl hl.1 rfl (lv_room (Nat.le_of_ble_eq_true rfl)) dX6_isAct_168 ⟨Nat.le_of_ble_eq_true rfl, Nat.le_of_ble_eq_true rfl⟩) (fun r_73 rho_75 f_74 H locs hw hH => ?_)
        obtain ⟨hu, hr_73⟩ := hw
        have hu : f_74 = f := hu
        rw [hu] at hH
        refine lv_if_eq (tgt := 178) hx hb dX6_isAct_171 (by decide) (fun c_76 => ?_) (fun c_76 => ?_)
        · skip
          have ic_76 : (r_73.toInt : Int) = 0 := ic_eq rfl kI_0 c_76
          refine lv_iconst (v := 0) hx hb dX6_isAct_178 (by decide) ?_
          exact m_zret (v := 0) hx hb hr (by rfl) hlk hC hH (fun _ => (0, 0)) ⟨rfl, Or.inr ⟨kI_0, okA_no6 5 jk_1 (fun f0 f1 f2 f3 f4 => by have g0 := fit_get (m := 3) rfl (by decide) kI_3 f0; have g1 := fit_get (m := 7) rfl (by decide) kI_7 f1; have g2 := fit_get (m := 3) rfl (by decide) kI_3 f2; omega)⟩⟩ (Nat.le_of_ble_eq_true rfl) (Nat.le_of_ble_eq_true rfl) dX6_isAct_179
        · skip
          have ic_76 : (r_73.toInt : Int) ≠ 0 := ic_ne rfl kI_0 c_76
          refine lv_iconst (v := 1) hx hb dX6_isAct_174 (by decide) ?_
          refine lv_goto (tgt := 179) hx hb dX6_isAct_175 (by decide) ?_
          exact m_zret (v := 1) hx hb hr (by rfl) hlk hC hH (fun _ => (0, 0)) ⟨rfl, Or.inl ⟨kI_1, okA_mk6 5 (by decide) jk_1 (fit_in (m := 3) rfl kI_3 (by omega) (by omega)) (fit_in (m := 7) rfl kI_7 (by omega) (by omega)) (fit_in (m := 3) rfl kI_3 (by omega) (by omega)) (Or.inl rfl) (Or.inl rfl)⟩⟩ (Nat.le_of_ble_eq_true rfl) (Nat.le_of_ble_eq_true rfl) dX6_isAct_179
  · skip
    have jk_1 : kd.toInt = 6 := hk_1
    refine lv_tableIn (off := 119) (tgt := 120) hx hb dX6_isAct_1 (by rw [jk_1]; decide) (by rw [jk_1]; decide) (by rw [jk_1]; rfl) (by decide) ?_
    refine lv_iload_n hx hb dX6_isAct_120 rfl (lv_at hl 1 rfl) ?_
    refine lv_i2l hx hb dX6_isAct_121 rfl ?_
    refine lv_topl (fun y_77 ey_77 => ?_)
    have iy_77 : y_77.toInt = a.toInt := lc_i2l ey_77 rfl
    have gy_77 := ic_rng a
    refine m_goi hH (va_runS (As := [.long y_77]) (rest := []) ⟨hx, hb, hml, hown, hts⟩ (c_X6_four l G f y_77) (va_cwS 1 hts gX6_isAct_X6_four rfl rfl rfl (by decide +kernel) ⟨Nat.le_of_ble_eq_true rfl, Nat.le_of_ble_eq_true rfl⟩) (m_preS hC hH) rfl rfl hl.1 rfl (lv_room (Nat.le_of_ble_eq_true rfl)) dX6_isAct_122 ⟨Nat.le_of_ble_eq_true rfl, Nat.le_of_ble_eq_true rfl⟩) (fun r_78 rho_80 f_79 H locs hw hH => ?_)
    obtain ⟨hu, hr_78⟩ := hw
    have hu : f_79 = f := hu
    rw [hu] at hH
    refine lv_if_eq (tgt := 148) hx hb dX6_isAct_125 (by decide) (fun c_81 => ?_) (fun c_81 => ?_)
    · skip
      have ic_81 : (r_78.toInt : Int) = 0 := ic_eq rfl kI_0 c_81
      refine lv_iconst (v := 0) hx hb dX6_isAct_148 (by decide) ?_
      exact m_zret (v := 0) hx hb hr (by rfl) hlk hC hH (fun _ => (0, 0)) ⟨rfl, Or.inr ⟨kI_0, okA_no6 6 jk_1 (fun f0 f1 f2 f3 f4 => by have g0 := fit_get (m := 3) rfl (by decide) kI_3 f0; have g1 := fit_get (m := 3) rfl (by decide) kI_3 f1; have g2 := fit_get (m := 7) rfl (by decide) kI_7 f2; omega)⟩⟩ (Nat.le_of_ble_eq_true rfl) (Nat.le_of_ble_eq_true rfl) dX6_isAct_149
    · skip
      have ic_81 : (r_78.toInt : Int) ≠ 0 := ic_ne rfl kI_0 c_81
      refine lv_lload_n hx hb dX6_isAct_128 rfl (lv_at hl 2 rfl) ?_
      refine m_goi hH (va_runS (As := [.long b]) (rest := []) ⟨hx, hb, hml, hown, hts⟩ (c_X6_four l G f b) (va_cwS 1 hts gX6_isAct_X6_four rfl rfl rfl (by decide +kernel) ⟨Nat.le_of_ble_eq_true rfl, Nat.le_of_ble_eq_true rfl⟩) (m_preS hC hH) rfl rfl hl.1 rfl (lv_room (Nat.le_of_ble_eq_true rfl)) dX6_isAct_129 ⟨Nat.le_of_ble_eq_true rfl, Nat.le_of_ble_eq_true rfl⟩) (fun r_82 rho_84 f_83 H locs hw hH => ?_)
      obtain ⟨hu, hr_82⟩ := hw
      have hu : f_83 = f := hu
      rw [hu] at hH
      refine lv_if_eq (tgt := 148) hx hb dX6_isAct_132 (by decide) (fun c_85 => ?_) (fun c_85 => ?_)
      · skip
        have ic_85 : (r_82.toInt : Int) = 0 := ic_eq rfl kI_0 c_85
        refine lv_iconst (v := 0) hx hb dX6_isAct_148 (by decide) ?_
        exact m_zret (v := 0) hx hb hr (by rfl) hlk hC hH (fun _ => (0, 0)) ⟨rfl, Or.inr ⟨kI_0, okA_no6 6 jk_1 (fun f0 f1 f2 f3 f4 => by have g0 := fit_get (m := 3) rfl (by decide) kI_3 f0; have g1 := fit_get (m := 3) rfl (by decide) kI_3 f1; have g2 := fit_get (m := 7) rfl (by decide) kI_7 f2; omega)⟩⟩ (Nat.le_of_ble_eq_true rfl) (Nat.le_of_ble_eq_true rfl) dX6_isAct_149
      · skip
        have ic_85 : (r_82.toInt : Int) ≠ 0 := ic_ne rfl kI_0 c_85
        refine lv_iload hx hb dX6_isAct_135 (lv_at hl 3 rfl) ?_
        refine lv_i2l hx hb dX6_isAct_137 rfl ?_
        refine lv_topl (fun y_86 ey_86 => ?_)
        have iy_86 : y_86.toInt = c_.toInt := lc_i2l ey_86 rfl
        have gy_86 := ic_rng c_
        refine m_goi hH (va_runS (As := [.long y_86]) (rest := []) ⟨hx, hb, hml, hown, hts⟩ (c_X6_eight l G f y_86) (va_cwS 1 hts gX6_isAct_X6_eight rfl rfl rfl (by decide +kernel) ⟨Nat.le_of_ble_eq_true rfl, Nat.le_of_ble_eq_true rfl⟩) (m_preS hC hH) rfl rfl hl.1 rfl (lv_room (Nat.le_of_ble_eq_true rfl)) dX6_isAct_138 ⟨Nat.le_of_ble_eq_true rfl, Nat.le_of_ble_eq_true rfl⟩) (fun r_87 rho_89 f_88 H locs hw hH => ?_)
        obtain ⟨hu, hr_87⟩ := hw
        have hu : f_88 = f := hu
        rw [hu] at hH
        refine lv_if_eq (tgt := 148) hx hb dX6_isAct_141 (by decide) (fun c_90 => ?_) (fun c_90 => ?_)
        · skip
          have ic_90 : (r_87.toInt : Int) = 0 := ic_eq rfl kI_0 c_90
          refine lv_iconst (v := 0) hx hb dX6_isAct_148 (by decide) ?_
          exact m_zret (v := 0) hx hb hr (by rfl) hlk hC hH (fun _ => (0, 0)) ⟨rfl, Or.inr ⟨kI_0, okA_no6 6 jk_1 (fun f0 f1 f2 f3 f4 => by have g0 := fit_get (m := 3) rfl (by decide) kI_3 f0; have g1 := fit_get (m := 3) rfl (by decide) kI_3 f1; have g2 := fit_get (m := 7) rfl (by decide) kI_7 f2; omega)⟩⟩ (Nat.le_of_ble_eq_true rfl) (Nat.le_of_ble_eq_true rfl) dX6_isAct_149
        · skip
          have ic_90 : (r_87.toInt : Int) ≠ 0 := ic_ne rfl kI_0 c_90
          refine lv_iconst (v := 1) hx hb dX6_isAct_144 (by decide) ?_
          refine lv_goto (tgt := 149) hx hb dX6_isAct_145 (by decide) ?_
          exact m_zret (v := 1) hx hb hr (by rfl) hlk hC hH (fun _ => (0, 0)) ⟨rfl, Or.inl ⟨kI_1, okA_mk6 6 (by decide) jk_1 (fit_in (m := 3) rfl kI_3 (by omega) (by omega)) (fit_in (m := 3) rfl kI_3 (by omega) (by omega)) (fit_in (m := 7) rfl kI_7 (by omega) (by omega)) (Or.inl rfl) (Or.inl rfl)⟩⟩ (Nat.le_of_ble_eq_true rfl) (Nat.le_of_ble_eq_true rfl) dX6_isAct_149
  · skip
    have jk_1 : kd.toInt = 7 := hk_1
    refine lv_tableIn (off := 149) (tgt := 150) hx hb dX6_isAct_1 (by rw [jk_1]; decide) (by rw [jk_1]; decide) (by rw [jk_1]; rfl) (by decide) ?_
    refine lv_iload_n hx hb dX6_isAct_150 rfl (lv_at hl 1 rfl) ?_
    refine lv_i2l hx hb dX6_isAct_151 rfl ?_
    refine lv_topl (fun y_91 ey_91 => ?_)
    have iy_91 : y_91.toInt = a.toInt := lc_i2l ey_91 rfl
    have gy_91 := ic_rng a
    refine m_goi hH (va_runS (As := [.long y_91]) (rest := []) ⟨hx, hb, hml, hown, hts⟩ (c_X6_four l G f y_91) (va_cwS 1 hts gX6_isAct_X6_four rfl rfl rfl (by decide +kernel) ⟨Nat.le_of_ble_eq_true rfl, Nat.le_of_ble_eq_true rfl⟩) (m_preS hC hH) rfl rfl hl.1 rfl (lv_room (Nat.le_of_ble_eq_true rfl)) dX6_isAct_152 ⟨Nat.le_of_ble_eq_true rfl, Nat.le_of_ble_eq_true rfl⟩) (fun r_92 rho_94 f_93 H locs hw hH => ?_)
    obtain ⟨hu, hr_92⟩ := hw
    have hu : f_93 = f := hu
    rw [hu] at hH
    refine lv_if_eq (tgt := 178) hx hb dX6_isAct_155 (by decide) (fun c_95 => ?_) (fun c_95 => ?_)
    · skip
      have ic_95 : (r_92.toInt : Int) = 0 := ic_eq rfl kI_0 c_95
      refine lv_iconst (v := 0) hx hb dX6_isAct_178 (by decide) ?_
      exact m_zret (v := 0) hx hb hr (by rfl) hlk hC hH (fun _ => (0, 0)) ⟨rfl, Or.inr ⟨kI_0, okA_no6 7 jk_1 (fun f0 f1 f2 f3 f4 => by have g0 := fit_get (m := 3) rfl (by decide) kI_3 f0; have g1 := fit_get (m := 7) rfl (by decide) kI_7 f1; have g2 := fit_get (m := 3) rfl (by decide) kI_3 f2; omega)⟩⟩ (Nat.le_of_ble_eq_true rfl) (Nat.le_of_ble_eq_true rfl) dX6_isAct_179
    · skip
      have ic_95 : (r_92.toInt : Int) ≠ 0 := ic_ne rfl kI_0 c_95
      refine lv_lload_n hx hb dX6_isAct_158 rfl (lv_at hl 2 rfl) ?_
      refine m_goi hH (va_runS (As := [.long b]) (rest := []) ⟨hx, hb, hml, hown, hts⟩ (c_X6_eight l G f b) (va_cwS 1 hts gX6_isAct_X6_eight rfl rfl rfl (by decide +kernel) ⟨Nat.le_of_ble_eq_true rfl, Nat.le_of_ble_eq_true rfl⟩) (m_preS hC hH) rfl rfl hl.1 rfl (lv_room (Nat.le_of_ble_eq_true rfl)) dX6_isAct_159 ⟨Nat.le_of_ble_eq_true rfl, Nat.le_of_ble_eq_true rfl⟩) (fun r_96 rho_98 f_97 H locs hw hH => ?_)
      obtain ⟨hu, hr_96⟩ := hw
      have hu : f_97 = f := hu
      rw [hu] at hH
      refine lv_if_eq (tgt := 178) hx hb dX6_isAct_162 (by decide) (fun c_99 => ?_) (fun c_99 => ?_)
      · skip
        have ic_99 : (r_96.toInt : Int) = 0 := ic_eq rfl kI_0 c_99
        refine lv_iconst (v := 0) hx hb dX6_isAct_178 (by decide) ?_
        exact m_zret (v := 0) hx hb hr (by rfl) hlk hC hH (fun _ => (0, 0)) ⟨rfl, Or.inr ⟨kI_0, okA_no6 7 jk_1 (fun f0 f1 f2 f3 f4 => by have g0 := fit_get (m := 3) rfl (by decide) kI_3 f0; have g1 := fit_get (m := 7) rfl (by decide) kI_7 f1; have g2 := fit_get (m := 3) rfl (by decide) kI_3 f2; omega)⟩⟩ (Nat.le_of_ble_eq_true rfl) (Nat.le_of_ble_eq_true rfl) dX6_isAct_179
      · skip
        have ic_99 : (r_96.toInt : Int) ≠ 0 := ic_ne rfl kI_0 c_99
        refine lv_iload hx hb dX6_isAct_165 (lv_at hl 3 rfl) ?_
        refine lv_i2l hx hb dX6_isAct_167 rfl ?_
        refine lv_topl (fun y_100 ey_100 => ?_)
        have iy_100 : y_100.toInt = c_.toInt := lc_i2l ey_100 rfl
        have gy_100 := ic_rng c_
        refine m_goi hH (va_runS (As := [.long y_100]) (rest := []) ⟨hx, hb, hml, hown, hts⟩ (c_X6_four l G f y_100) (va_cwS 1 hts gX6_isAct_X6_four rfl rfl rfl (by decide +kernel) ⟨Nat.le_of_ble_eq_true rfl, Nat.le_of_ble_eq_true rfl⟩) (m_preS hC hH) rfl rfl hl.1 rfl (lv_room (Nat.le_of_ble_eq_true rfl)) dX6_isAct_168 ⟨Nat.le_of_ble_eq_true rfl, Nat.le_of_ble_eq_true rfl⟩) (fun r_101 rho_103 f_102 H locs hw hH => ?_)
        obtain ⟨hu, hr_101⟩ := hw
        have hu : f_102 = f := hu
        rw [hu] at hH
        refine lv_if_eq (tgt := 178) hx hb dX6_isAct_171 (by decide) (fun c_104 => ?_) (fun c_104 => ?_)
        · skip
          have ic_104 : (r_101.toInt : Int) = 0 := ic_eq rfl kI_0 c_104
          refine lv_iconst (v := 0) hx hb dX6_isAct_178 (by decide) ?_
          exact m_zret (v := 0) hx hb hr (by rfl) hlk hC hH (fun _ => (0, 0)) ⟨rfl, Or.inr ⟨kI_0, okA_no6 7 jk_1 (fun f0 f1 f2 f3 f4 => by have g0 := fit_get (m := 3) rfl (by decide) kI_3 f0; have g1 := fit_get (m := 7) rfl (by decide) kI_7 f1; have g2 := fit_get (m := 3) rfl (by decide) kI_3 f2; omega)⟩⟩ (Nat.le_of_ble_eq_true rfl) (Nat.le_of_ble_eq_true rfl) dX6_isAct_179
        · skip
          have ic_104 : (r_101.toInt : Int) ≠ 0 := ic_ne rfl kI_0 c_104
          refine lv_iconst (v := 1) hx hb dX6_isAct_174 (by decide) ?_
          refine lv_goto (tgt := 179) hx hb dX6_isAct_175 (by decide) ?_
          exact m_zret (v := 1) hx hb hr (by rfl) hlk hC hH (fun _ => (0, 0)) ⟨rfl, Or.inl ⟨kI_1, okA_mk6 7 (by decide) jk_1 (fit_in (m := 3) rfl kI_3 (by omega) (by omega)) (fit_in (m := 7) rfl kI_7 (by omega) (by omega)) (fit_in (m := 3) rfl kI_3 (by omega) (by omega)) (Or.inl rfl) (Or.inl rfl)⟩⟩ (Nat.le_of_ble_eq_true rfl) (Nat.le_of_ble_eq_true rfl) dX6_isAct_179
  · skip
    have jk_1 : kd.toInt = 8 := hk_1
    refine lv_tableIn (off := 179) (tgt := 180) hx hb dX6_isAct_1 (by rw [jk_1]; decide) (by rw [jk_1]; decide) (by rw [jk_1]; rfl) (by decide) ?_
    refine lv_iload_n hx hb dX6_isAct_180 rfl (lv_at hl 1 rfl) ?_
    refine lv_i2l hx hb dX6_isAct_181 rfl ?_
    refine lv_topl (fun y_105 ey_105 => ?_)
    have iy_105 : y_105.toInt = a.toInt := lc_i2l ey_105 rfl
    have gy_105 := ic_rng a
    refine m_goi hH (va_runS (As := [.long y_105]) (rest := []) ⟨hx, hb, hml, hown, hts⟩ (c_X6_four l G f y_105) (va_cwS 1 hts gX6_isAct_X6_four rfl rfl rfl (by decide +kernel) ⟨Nat.le_of_ble_eq_true rfl, Nat.le_of_ble_eq_true rfl⟩) (m_preS hC hH) rfl rfl hl.1 rfl (lv_room (Nat.le_of_ble_eq_true rfl)) dX6_isAct_182 ⟨Nat.le_of_ble_eq_true rfl, Nat.le_of_ble_eq_true rfl⟩) (fun r_106 rho_108 f_107 H locs hw hH => ?_)
    obtain ⟨hu, hr_106⟩ := hw
    have hu : f_107 = f := hu
    rw [hu] at hH
    refine lv_if_eq (tgt := 217) hx hb dX6_isAct_185 (by decide) (fun c_109 => ?_) (fun c_109 => ?_)
    · skip
      have ic_109 : (r_106.toInt : Int) = 0 := ic_eq rfl kI_0 c_109
      refine lv_iconst (v := 0) hx hb dX6_isAct_217 (by decide) ?_
      exact m_zret (v := 0) hx hb hr (by rfl) hlk hC hH (fun _ => (0, 0)) ⟨rfl, Or.inr ⟨kI_0, okA_no6 8 jk_1 (fun f0 f1 f2 f3 f4 => by have g0 := fit_get (m := 3) rfl (by decide) kI_3 f0; have g1 := fit_get (m := 3) rfl (by decide) kI_3 f1; have g2 := fit_get (m := 7) rfl (by decide) kI_7 f2; have g3 := fit_get (m := 3) rfl (by decide) kI_3 f3; omega)⟩⟩ (Nat.le_of_ble_eq_true rfl) (Nat.le_of_ble_eq_true rfl) dX6_isAct_218
    · skip
      have ic_109 : (r_106.toInt : Int) ≠ 0 := ic_ne rfl kI_0 c_109
      refine lv_lload_n hx hb dX6_isAct_188 rfl (lv_at hl 2 rfl) ?_
      refine m_goi hH (va_runS (As := [.long b]) (rest := []) ⟨hx, hb, hml, hown, hts⟩ (c_X6_four l G f b) (va_cwS 1 hts gX6_isAct_X6_four rfl rfl rfl (by decide +kernel) ⟨Nat.le_of_ble_eq_true rfl, Nat.le_of_ble_eq_true rfl⟩) (m_preS hC hH) rfl rfl hl.1 rfl (lv_room (Nat.le_of_ble_eq_true rfl)) dX6_isAct_189 ⟨Nat.le_of_ble_eq_true rfl, Nat.le_of_ble_eq_true rfl⟩) (fun r_110 rho_112 f_111 H locs hw hH => ?_)
      obtain ⟨hu, hr_110⟩ := hw
      have hu : f_111 = f := hu
      rw [hu] at hH
      refine lv_if_eq (tgt := 217) hx hb dX6_isAct_192 (by decide) (fun c_113 => ?_) (fun c_113 => ?_)
      · skip
        have ic_113 : (r_110.toInt : Int) = 0 := ic_eq rfl kI_0 c_113
        refine lv_iconst (v := 0) hx hb dX6_isAct_217 (by decide) ?_
        exact m_zret (v := 0) hx hb hr (by rfl) hlk hC hH (fun _ => (0, 0)) ⟨rfl, Or.inr ⟨kI_0, okA_no6 8 jk_1 (fun f0 f1 f2 f3 f4 => by have g0 := fit_get (m := 3) rfl (by decide) kI_3 f0; have g1 := fit_get (m := 3) rfl (by decide) kI_3 f1; have g2 := fit_get (m := 7) rfl (by decide) kI_7 f2; have g3 := fit_get (m := 3) rfl (by decide) kI_3 f3; omega)⟩⟩ (Nat.le_of_ble_eq_true rfl) (Nat.le_of_ble_eq_true rfl) dX6_isAct_218
      · skip
        have ic_113 : (r_110.toInt : Int) ≠ 0 := ic_ne rfl kI_0 c_113
        refine lv_iload hx hb dX6_isAct_195 (lv_at hl 3 rfl) ?_
        refine lv_i2l hx hb dX6_isAct_197 rfl ?_
        refine lv_topl (fun y_114 ey_114 => ?_)
        have iy_114 : y_114.toInt = c_.toInt := lc_i2l ey_114 rfl
        have gy_114 := ic_rng c_
        refine m_goi hH (va_runS (As := [.long y_114]) (rest := []) ⟨hx, hb, hml, hown, hts⟩ (c_X6_eight l G f y_114) (va_cwS 1 hts gX6_isAct_X6_eight rfl rfl rfl (by decide +kernel) ⟨Nat.le_of_ble_eq_true rfl, Nat.le_of_ble_eq_true rfl⟩) (m_preS hC hH) rfl rfl hl.1 rfl (lv_room (Nat.le_of_ble_eq_true rfl)) dX6_isAct_198 ⟨Nat.le_of_ble_eq_true rfl, Nat.le_of_ble_eq_true rfl⟩) (fun r_115 rho_117 f_116 H locs hw hH => ?_)
        obtain ⟨hu, hr_115⟩ := hw
        have hu : f_116 = f := hu
        rw [hu] at hH
        refine lv_if_eq (tgt := 217) hx hb dX6_isAct_201 (by decide) (fun c_118 => ?_) (fun c_118 => ?_)
        · skip
          have ic_118 : (r_115.toInt : Int) = 0 := ic_eq rfl kI_0 c_118
          refine lv_iconst (v := 0) hx hb dX6_isAct_217 (by decide) ?_
          exact m_zret (v := 0) hx hb hr (by rfl) hlk hC hH (fun _ => (0, 0)) ⟨rfl, Or.inr ⟨kI_0, okA_no6 8 jk_1 (fun f0 f1 f2 f3 f4 => by have g0 := fit_get (m := 3) rfl (by decide) kI_3 f0; have g1 := fit_get (m := 3) rfl (by decide) kI_3 f1; have g2 := fit_get (m := 7) rfl (by decide) kI_7 f2; have g3 := fit_get (m := 3) rfl (by decide) kI_3 f3; omega)⟩⟩ (Nat.le_of_ble_eq_true rfl) (Nat.le_of_ble_eq_true rfl) dX6_isAct_218
        · skip
          have ic_118 : (r_115.toInt : Int) ≠ 0 := ic_ne rfl kI_0 c_118
          refine lv_iload hx hb dX6_isAct_204 (lv_at hl 4 rfl) ?_
          refine lv_i2l hx hb dX6_isAct_206 rfl ?_
          refine lv_topl (fun y_119 ey_119 => ?_)
          have iy_119 : y_119.toInt = d_.toInt := lc_i2l ey_119 rfl
          have gy_119 := ic_rng d_
          refine m_goi hH (va_runS (As := [.long y_119]) (rest := []) ⟨hx, hb, hml, hown, hts⟩ (c_X6_four l G f y_119) (va_cwS 1 hts gX6_isAct_X6_four rfl rfl rfl (by decide +kernel) ⟨Nat.le_of_ble_eq_true rfl, Nat.le_of_ble_eq_true rfl⟩) (m_preS hC hH) rfl rfl hl.1 rfl (lv_room (Nat.le_of_ble_eq_true rfl)) dX6_isAct_207 ⟨Nat.le_of_ble_eq_true rfl, Nat.le_of_ble_eq_true rfl⟩) (fun r_120 rho_122 f_121 H locs hw hH => ?_)
          obtain ⟨hu, hr_120⟩ := hw
          have hu : f_121 = f := hu
          rw [hu] at hH
          refine lv_if_eq (tgt := 217) hx hb dX6_isAct_210 (by decide) (fun c_123 => ?_) (fun c_123 => ?_)
          · skip
            have ic_123 : (r_120.toInt : Int) = 0 := ic_eq rfl kI_0 c_123
            refine lv_iconst (v := 0) hx hb dX6_isAct_217 (by decide) ?_
            exact m_zret (v := 0) hx hb hr (by rfl) hlk hC hH (fun _ => (0, 0)) ⟨rfl, Or.inr ⟨kI_0, okA_no6 8 jk_1 (fun f0 f1 f2 f3 f4 => by have g0 := fit_get (m := 3) rfl (by decide) kI_3 f0; have g1 := fit_get (m := 3) rfl (by decide) kI_3 f1; have g2 := fit_get (m := 7) rfl (by decide) kI_7 f2; have g3 := fit_get (m := 3) rfl (by decide) kI_3 f3; omega)⟩⟩ (Nat.le_of_ble_eq_true rfl) (Nat.le_of_ble_eq_true rfl) dX6_isAct_218
          · skip
            have ic_123 : (r_120.toInt : Int) ≠ 0 := ic_ne rfl kI_0 c_123
            refine lv_iconst (v := 1) hx hb dX6_isAct_213 (by decide) ?_
            refine lv_goto (tgt := 218) hx hb dX6_isAct_214 (by decide) ?_
            exact m_zret (v := 1) hx hb hr (by rfl) hlk hC hH (fun _ => (0, 0)) ⟨rfl, Or.inl ⟨kI_1, okA_mk6 8 (by decide) jk_1 (fit_in (m := 3) rfl kI_3 (by omega) (by omega)) (fit_in (m := 3) rfl kI_3 (by omega) (by omega)) (fit_in (m := 7) rfl kI_7 (by omega) (by omega)) (fit_in (m := 3) rfl kI_3 (by omega) (by omega)) (Or.inl rfl)⟩⟩ (Nat.le_of_ble_eq_true rfl) (Nat.le_of_ble_eq_true rfl) dX6_isAct_218
  · skip
    have jk_1 : kd.toInt = 9 := hk_1
    refine lv_tableIn (off := 218) (tgt := 219) hx hb dX6_isAct_1 (by rw [jk_1]; decide) (by rw [jk_1]; decide) (by rw [jk_1]; rfl) (by decide) ?_
    refine lv_iload_n hx hb dX6_isAct_219 rfl (lv_at hl 1 rfl) ?_
    refine lv_i2l hx hb dX6_isAct_220 rfl ?_
    refine lv_topl (fun y_124 ey_124 => ?_)
    have iy_124 : y_124.toInt = a.toInt := lc_i2l ey_124 rfl
    have gy_124 := ic_rng a
    refine m_goi hH (va_runS (As := [.long y_124]) (rest := []) ⟨hx, hb, hml, hown, hts⟩ (c_X6_four l G f y_124) (va_cwS 1 hts gX6_isAct_X6_four rfl rfl rfl (by decide +kernel) ⟨Nat.le_of_ble_eq_true rfl, Nat.le_of_ble_eq_true rfl⟩) (m_preS hC hH) rfl rfl hl.1 rfl (lv_room (Nat.le_of_ble_eq_true rfl)) dX6_isAct_221 ⟨Nat.le_of_ble_eq_true rfl, Nat.le_of_ble_eq_true rfl⟩) (fun r_125 rho_127 f_126 H locs hw hH => ?_)
    obtain ⟨hu, hr_125⟩ := hw
    have hu : f_126 = f := hu
    rw [hu] at hH
    refine lv_if_eq (tgt := 256) hx hb dX6_isAct_224 (by decide) (fun c_128 => ?_) (fun c_128 => ?_)
    · skip
      have ic_128 : (r_125.toInt : Int) = 0 := ic_eq rfl kI_0 c_128
      refine lv_iconst (v := 0) hx hb dX6_isAct_256 (by decide) ?_
      exact m_zret (v := 0) hx hb hr (by rfl) hlk hC hH (fun _ => (0, 0)) ⟨rfl, Or.inr ⟨kI_0, okA_no6 9 jk_1 (fun f0 f1 f2 f3 f4 => by have g0 := fit_get (m := 3) rfl (by decide) kI_3 f0; have g1 := fit_get (m := 7) rfl (by decide) kI_7 f1; have g2 := fit_get (m := 3) rfl (by decide) kI_3 f2; have g3 := fit_get (m := 3) rfl (by decide) kI_3 f3; omega)⟩⟩ (Nat.le_of_ble_eq_true rfl) (Nat.le_of_ble_eq_true rfl) dX6_isAct_257
    · skip
      have ic_128 : (r_125.toInt : Int) ≠ 0 := ic_ne rfl kI_0 c_128
      refine lv_lload_n hx hb dX6_isAct_227 rfl (lv_at hl 2 rfl) ?_
      refine m_goi hH (va_runS (As := [.long b]) (rest := []) ⟨hx, hb, hml, hown, hts⟩ (c_X6_eight l G f b) (va_cwS 1 hts gX6_isAct_X6_eight rfl rfl rfl (by decide +kernel) ⟨Nat.le_of_ble_eq_true rfl, Nat.le_of_ble_eq_true rfl⟩) (m_preS hC hH) rfl rfl hl.1 rfl (lv_room (Nat.le_of_ble_eq_true rfl)) dX6_isAct_228 ⟨Nat.le_of_ble_eq_true rfl, Nat.le_of_ble_eq_true rfl⟩) (fun r_129 rho_131 f_130 H locs hw hH => ?_)
      obtain ⟨hu, hr_129⟩ := hw
      have hu : f_130 = f := hu
      rw [hu] at hH
      refine lv_if_eq (tgt := 256) hx hb dX6_isAct_231 (by decide) (fun c_132 => ?_) (fun c_132 => ?_)
      · skip
        have ic_132 : (r_129.toInt : Int) = 0 := ic_eq rfl kI_0 c_132
        refine lv_iconst (v := 0) hx hb dX6_isAct_256 (by decide) ?_
        exact m_zret (v := 0) hx hb hr (by rfl) hlk hC hH (fun _ => (0, 0)) ⟨rfl, Or.inr ⟨kI_0, okA_no6 9 jk_1 (fun f0 f1 f2 f3 f4 => by have g0 := fit_get (m := 3) rfl (by decide) kI_3 f0; have g1 := fit_get (m := 7) rfl (by decide) kI_7 f1; have g2 := fit_get (m := 3) rfl (by decide) kI_3 f2; have g3 := fit_get (m := 3) rfl (by decide) kI_3 f3; omega)⟩⟩ (Nat.le_of_ble_eq_true rfl) (Nat.le_of_ble_eq_true rfl) dX6_isAct_257
      · skip
        have ic_132 : (r_129.toInt : Int) ≠ 0 := ic_ne rfl kI_0 c_132
        refine lv_iload hx hb dX6_isAct_234 (lv_at hl 3 rfl) ?_
        refine lv_i2l hx hb dX6_isAct_236 rfl ?_
        refine lv_topl (fun y_133 ey_133 => ?_)
        have iy_133 : y_133.toInt = c_.toInt := lc_i2l ey_133 rfl
        have gy_133 := ic_rng c_
        refine m_goi hH (va_runS (As := [.long y_133]) (rest := []) ⟨hx, hb, hml, hown, hts⟩ (c_X6_four l G f y_133) (va_cwS 1 hts gX6_isAct_X6_four rfl rfl rfl (by decide +kernel) ⟨Nat.le_of_ble_eq_true rfl, Nat.le_of_ble_eq_true rfl⟩) (m_preS hC hH) rfl rfl hl.1 rfl (lv_room (Nat.le_of_ble_eq_true rfl)) dX6_isAct_237 ⟨Nat.le_of_ble_eq_true rfl, Nat.le_of_ble_eq_true rfl⟩) (fun r_134 rho_136 f_135 H locs hw hH => ?_)
        obtain ⟨hu, hr_134⟩ := hw
        have hu : f_135 = f := hu
        rw [hu] at hH
        refine lv_if_eq (tgt := 256) hx hb dX6_isAct_240 (by decide) (fun c_137 => ?_) (fun c_137 => ?_)
        · skip
          have ic_137 : (r_134.toInt : Int) = 0 := ic_eq rfl kI_0 c_137
          refine lv_iconst (v := 0) hx hb dX6_isAct_256 (by decide) ?_
          exact m_zret (v := 0) hx hb hr (by rfl) hlk hC hH (fun _ => (0, 0)) ⟨rfl, Or.inr ⟨kI_0, okA_no6 9 jk_1 (fun f0 f1 f2 f3 f4 => by have g0 := fit_get (m := 3) rfl (by decide) kI_3 f0; have g1 := fit_get (m := 7) rfl (by decide) kI_7 f1; have g2 := fit_get (m := 3) rfl (by decide) kI_3 f2; have g3 := fit_get (m := 3) rfl (by decide) kI_3 f3; omega)⟩⟩ (Nat.le_of_ble_eq_true rfl) (Nat.le_of_ble_eq_true rfl) dX6_isAct_257
        · skip
          have ic_137 : (r_134.toInt : Int) ≠ 0 := ic_ne rfl kI_0 c_137
          refine lv_iload hx hb dX6_isAct_243 (lv_at hl 4 rfl) ?_
          refine lv_i2l hx hb dX6_isAct_245 rfl ?_
          refine lv_topl (fun y_138 ey_138 => ?_)
          have iy_138 : y_138.toInt = d_.toInt := lc_i2l ey_138 rfl
          have gy_138 := ic_rng d_
          refine m_goi hH (va_runS (As := [.long y_138]) (rest := []) ⟨hx, hb, hml, hown, hts⟩ (c_X6_four l G f y_138) (va_cwS 1 hts gX6_isAct_X6_four rfl rfl rfl (by decide +kernel) ⟨Nat.le_of_ble_eq_true rfl, Nat.le_of_ble_eq_true rfl⟩) (m_preS hC hH) rfl rfl hl.1 rfl (lv_room (Nat.le_of_ble_eq_true rfl)) dX6_isAct_246 ⟨Nat.le_of_ble_eq_true rfl, Nat.le_of_ble_eq_true rfl⟩) (fun r_139 rho_141 f_140 H locs hw hH => ?_)
          obtain ⟨hu, hr_139⟩ := hw
          have hu : f_140 = f := hu
          rw [hu] at hH
          refine lv_if_eq (tgt := 256) hx hb dX6_isAct_249 (by decide) (fun c_142 => ?_) (fun c_142 => ?_)
          · skip
            have ic_142 : (r_139.toInt : Int) = 0 := ic_eq rfl kI_0 c_142
            refine lv_iconst (v := 0) hx hb dX6_isAct_256 (by decide) ?_
            exact m_zret (v := 0) hx hb hr (by rfl) hlk hC hH (fun _ => (0, 0)) ⟨rfl, Or.inr ⟨kI_0, okA_no6 9 jk_1 (fun f0 f1 f2 f3 f4 => by have g0 := fit_get (m := 3) rfl (by decide) kI_3 f0; have g1 := fit_get (m := 7) rfl (by decide) kI_7 f1; have g2 := fit_get (m := 3) rfl (by decide) kI_3 f2; have g3 := fit_get (m := 3) rfl (by decide) kI_3 f3; omega)⟩⟩ (Nat.le_of_ble_eq_true rfl) (Nat.le_of_ble_eq_true rfl) dX6_isAct_257
          · skip
            have ic_142 : (r_139.toInt : Int) ≠ 0 := ic_ne rfl kI_0 c_142
            refine lv_iconst (v := 1) hx hb dX6_isAct_252 (by decide) ?_
            refine lv_goto (tgt := 257) hx hb dX6_isAct_253 (by decide) ?_
            exact m_zret (v := 1) hx hb hr (by rfl) hlk hC hH (fun _ => (0, 0)) ⟨rfl, Or.inl ⟨kI_1, okA_mk6 9 (by decide) jk_1 (fit_in (m := 3) rfl kI_3 (by omega) (by omega)) (fit_in (m := 7) rfl kI_7 (by omega) (by omega)) (fit_in (m := 3) rfl kI_3 (by omega) (by omega)) (fit_in (m := 3) rfl kI_3 (by omega) (by omega)) (Or.inl rfl)⟩⟩ (Nat.le_of_ble_eq_true rfl) (Nat.le_of_ble_eq_true rfl) dX6_isAct_257
  · skip
    have jk_1 : kd.toInt = 10 := hk_1
    refine lv_tableIn (off := 149) (tgt := 150) hx hb dX6_isAct_1 (by rw [jk_1]; decide) (by rw [jk_1]; decide) (by rw [jk_1]; rfl) (by decide) ?_
    refine lv_iload_n hx hb dX6_isAct_150 rfl (lv_at hl 1 rfl) ?_
    refine lv_i2l hx hb dX6_isAct_151 rfl ?_
    refine lv_topl (fun y_143 ey_143 => ?_)
    have iy_143 : y_143.toInt = a.toInt := lc_i2l ey_143 rfl
    have gy_143 := ic_rng a
    refine m_goi hH (va_runS (As := [.long y_143]) (rest := []) ⟨hx, hb, hml, hown, hts⟩ (c_X6_four l G f y_143) (va_cwS 1 hts gX6_isAct_X6_four rfl rfl rfl (by decide +kernel) ⟨Nat.le_of_ble_eq_true rfl, Nat.le_of_ble_eq_true rfl⟩) (m_preS hC hH) rfl rfl hl.1 rfl (lv_room (Nat.le_of_ble_eq_true rfl)) dX6_isAct_152 ⟨Nat.le_of_ble_eq_true rfl, Nat.le_of_ble_eq_true rfl⟩) (fun r_144 rho_146 f_145 H locs hw hH => ?_)
    obtain ⟨hu, hr_144⟩ := hw
    have hu : f_145 = f := hu
    rw [hu] at hH
    refine lv_if_eq (tgt := 178) hx hb dX6_isAct_155 (by decide) (fun c_147 => ?_) (fun c_147 => ?_)
    · skip
      have ic_147 : (r_144.toInt : Int) = 0 := ic_eq rfl kI_0 c_147
      refine lv_iconst (v := 0) hx hb dX6_isAct_178 (by decide) ?_
      exact m_zret (v := 0) hx hb hr (by rfl) hlk hC hH (fun _ => (0, 0)) ⟨rfl, Or.inr ⟨kI_0, okA_no6 10 jk_1 (fun f0 f1 f2 f3 f4 => by have g0 := fit_get (m := 3) rfl (by decide) kI_3 f0; have g1 := fit_get (m := 7) rfl (by decide) kI_7 f1; have g2 := fit_get (m := 3) rfl (by decide) kI_3 f2; omega)⟩⟩ (Nat.le_of_ble_eq_true rfl) (Nat.le_of_ble_eq_true rfl) dX6_isAct_179
    · skip
      have ic_147 : (r_144.toInt : Int) ≠ 0 := ic_ne rfl kI_0 c_147
      refine lv_lload_n hx hb dX6_isAct_158 rfl (lv_at hl 2 rfl) ?_
      refine m_goi hH (va_runS (As := [.long b]) (rest := []) ⟨hx, hb, hml, hown, hts⟩ (c_X6_eight l G f b) (va_cwS 1 hts gX6_isAct_X6_eight rfl rfl rfl (by decide +kernel) ⟨Nat.le_of_ble_eq_true rfl, Nat.le_of_ble_eq_true rfl⟩) (m_preS hC hH) rfl rfl hl.1 rfl (lv_room (Nat.le_of_ble_eq_true rfl)) dX6_isAct_159 ⟨Nat.le_of_ble_eq_true rfl, Nat.le_of_ble_eq_true rfl⟩) (fun r_148 rho_150 f_149 H locs hw hH => ?_)
      obtain ⟨hu, hr_148⟩ := hw
      have hu : f_149 = f := hu
      rw [hu] at hH
      refine lv_if_eq (tgt := 178) hx hb dX6_isAct_162 (by decide) (fun c_151 => ?_) (fun c_151 => ?_)
      · skip
        have ic_151 : (r_148.toInt : Int) = 0 := ic_eq rfl kI_0 c_151
        refine lv_iconst (v := 0) hx hb dX6_isAct_178 (by decide) ?_
        exact m_zret (v := 0) hx hb hr (by rfl) hlk hC hH (fun _ => (0, 0)) ⟨rfl, Or.inr ⟨kI_0, okA_no6 10 jk_1 (fun f0 f1 f2 f3 f4 => by have g0 := fit_get (m := 3) rfl (by decide) kI_3 f0; have g1 := fit_get (m := 7) rfl (by decide) kI_7 f1; have g2 := fit_get (m := 3) rfl (by decide) kI_3 f2; omega)⟩⟩ (Nat.le_of_ble_eq_true rfl) (Nat.le_of_ble_eq_true rfl) dX6_isAct_179
      · skip
        have ic_151 : (r_148.toInt : Int) ≠ 0 := ic_ne rfl kI_0 c_151
        refine lv_iload hx hb dX6_isAct_165 (lv_at hl 3 rfl) ?_
        refine lv_i2l hx hb dX6_isAct_167 rfl ?_
        refine lv_topl (fun y_152 ey_152 => ?_)
        have iy_152 : y_152.toInt = c_.toInt := lc_i2l ey_152 rfl
        have gy_152 := ic_rng c_
        refine m_goi hH (va_runS (As := [.long y_152]) (rest := []) ⟨hx, hb, hml, hown, hts⟩ (c_X6_four l G f y_152) (va_cwS 1 hts gX6_isAct_X6_four rfl rfl rfl (by decide +kernel) ⟨Nat.le_of_ble_eq_true rfl, Nat.le_of_ble_eq_true rfl⟩) (m_preS hC hH) rfl rfl hl.1 rfl (lv_room (Nat.le_of_ble_eq_true rfl)) dX6_isAct_168 ⟨Nat.le_of_ble_eq_true rfl, Nat.le_of_ble_eq_true rfl⟩) (fun r_153 rho_155 f_154 H locs hw hH => ?_)
        obtain ⟨hu, hr_153⟩ := hw
        have hu : f_154 = f := hu
        rw [hu] at hH
        refine lv_if_eq (tgt := 178) hx hb dX6_isAct_171 (by decide) (fun c_156 => ?_) (fun c_156 => ?_)
        · skip
          have ic_156 : (r_153.toInt : Int) = 0 := ic_eq rfl kI_0 c_156
          refine lv_iconst (v := 0) hx hb dX6_isAct_178 (by decide) ?_
          exact m_zret (v := 0) hx hb hr (by rfl) hlk hC hH (fun _ => (0, 0)) ⟨rfl, Or.inr ⟨kI_0, okA_no6 10 jk_1 (fun f0 f1 f2 f3 f4 => by have g0 := fit_get (m := 3) rfl (by decide) kI_3 f0; have g1 := fit_get (m := 7) rfl (by decide) kI_7 f1; have g2 := fit_get (m := 3) rfl (by decide) kI_3 f2; omega)⟩⟩ (Nat.le_of_ble_eq_true rfl) (Nat.le_of_ble_eq_true rfl) dX6_isAct_179
        · skip
          have ic_156 : (r_153.toInt : Int) ≠ 0 := ic_ne rfl kI_0 c_156
          refine lv_iconst (v := 1) hx hb dX6_isAct_174 (by decide) ?_
          refine lv_goto (tgt := 179) hx hb dX6_isAct_175 (by decide) ?_
          exact m_zret (v := 1) hx hb hr (by rfl) hlk hC hH (fun _ => (0, 0)) ⟨rfl, Or.inl ⟨kI_1, okA_mk6 10 (by decide) jk_1 (fit_in (m := 3) rfl kI_3 (by omega) (by omega)) (fit_in (m := 7) rfl kI_7 (by omega) (by omega)) (fit_in (m := 3) rfl kI_3 (by omega) (by omega)) (Or.inl rfl) (Or.inl rfl)⟩⟩ (Nat.le_of_ble_eq_true rfl) (Nat.le_of_ble_eq_true rfl) dX6_isAct_179
  · skip
    have jk_1 : kd.toInt = 11 := hk_1
    refine lv_tableIn (off := 257) (tgt := 258) hx hb dX6_isAct_1 (by rw [jk_1]; decide) (by rw [jk_1]; decide) (by rw [jk_1]; rfl) (by decide) ?_
    refine lv_iload_n hx hb dX6_isAct_258 rfl (lv_at hl 1 rfl) ?_
    refine lv_i2l hx hb dX6_isAct_259 rfl ?_
    refine lv_topl (fun y_157 ey_157 => ?_)
    have iy_157 : y_157.toInt = a.toInt := lc_i2l ey_157 rfl
    have gy_157 := ic_rng a
    refine m_goi hH (va_runS (As := [.long y_157]) (rest := []) ⟨hx, hb, hml, hown, hts⟩ (c_X6_four l G f y_157) (va_cwS 1 hts gX6_isAct_X6_four rfl rfl rfl (by decide +kernel) ⟨Nat.le_of_ble_eq_true rfl, Nat.le_of_ble_eq_true rfl⟩) (m_preS hC hH) rfl rfl hl.1 rfl (lv_room (Nat.le_of_ble_eq_true rfl)) dX6_isAct_260 ⟨Nat.le_of_ble_eq_true rfl, Nat.le_of_ble_eq_true rfl⟩) (fun r_158 rho_160 f_159 H locs hw hH => ?_)
    obtain ⟨hu, hr_158⟩ := hw
    have hu : f_159 = f := hu
    rw [hu] at hH
    refine lv_if_eq (tgt := 304) hx hb dX6_isAct_263 (by decide) (fun c_161 => ?_) (fun c_161 => ?_)
    · skip
      have ic_161 : (r_158.toInt : Int) = 0 := ic_eq rfl kI_0 c_161
      refine lv_iconst (v := 0) hx hb dX6_isAct_304 (by decide) ?_
      exact m_zret (v := 0) hx hb hr (by rfl) hlk hC hH (fun _ => (0, 0)) ⟨rfl, Or.inr ⟨kI_0, okA_no6 11 jk_1 (fun f0 f1 f2 f3 f4 => by have g0 := fit_get (m := 3) rfl (by decide) kI_3 f0; have g1 := fit_get (m := 7) rfl (by decide) kI_7 f1; have g2 := fit_get (m := 3) rfl (by decide) kI_3 f2; have g3 := fit_get (m := 7) rfl (by decide) kI_7 f3; have g4 := fit_get (m := 3) rfl (by decide) kI_3 f4; omega)⟩⟩ (Nat.le_of_ble_eq_true rfl) (Nat.le_of_ble_eq_true rfl) dX6_isAct_305
    · skip
      have ic_161 : (r_158.toInt : Int) ≠ 0 := ic_ne rfl kI_0 c_161
      refine lv_lload_n hx hb dX6_isAct_266 rfl (lv_at hl 2 rfl) ?_
      refine m_goi hH (va_runS (As := [.long b]) (rest := []) ⟨hx, hb, hml, hown, hts⟩ (c_X6_eight l G f b) (va_cwS 1 hts gX6_isAct_X6_eight rfl rfl rfl (by decide +kernel) ⟨Nat.le_of_ble_eq_true rfl, Nat.le_of_ble_eq_true rfl⟩) (m_preS hC hH) rfl rfl hl.1 rfl (lv_room (Nat.le_of_ble_eq_true rfl)) dX6_isAct_267 ⟨Nat.le_of_ble_eq_true rfl, Nat.le_of_ble_eq_true rfl⟩) (fun r_162 rho_164 f_163 H locs hw hH => ?_)
      obtain ⟨hu, hr_162⟩ := hw
      have hu : f_163 = f := hu
      rw [hu] at hH
      refine lv_if_eq (tgt := 304) hx hb dX6_isAct_270 (by decide) (fun c_165 => ?_) (fun c_165 => ?_)
      · skip
        have ic_165 : (r_162.toInt : Int) = 0 := ic_eq rfl kI_0 c_165
        refine lv_iconst (v := 0) hx hb dX6_isAct_304 (by decide) ?_
        exact m_zret (v := 0) hx hb hr (by rfl) hlk hC hH (fun _ => (0, 0)) ⟨rfl, Or.inr ⟨kI_0, okA_no6 11 jk_1 (fun f0 f1 f2 f3 f4 => by have g0 := fit_get (m := 3) rfl (by decide) kI_3 f0; have g1 := fit_get (m := 7) rfl (by decide) kI_7 f1; have g2 := fit_get (m := 3) rfl (by decide) kI_3 f2; have g3 := fit_get (m := 7) rfl (by decide) kI_7 f3; have g4 := fit_get (m := 3) rfl (by decide) kI_3 f4; omega)⟩⟩ (Nat.le_of_ble_eq_true rfl) (Nat.le_of_ble_eq_true rfl) dX6_isAct_305
      · skip
        have ic_165 : (r_162.toInt : Int) ≠ 0 := ic_ne rfl kI_0 c_165
        refine lv_iload hx hb dX6_isAct_273 (lv_at hl 3 rfl) ?_
        refine lv_i2l hx hb dX6_isAct_275 rfl ?_
        refine lv_topl (fun y_166 ey_166 => ?_)
        have iy_166 : y_166.toInt = c_.toInt := lc_i2l ey_166 rfl
        have gy_166 := ic_rng c_
        refine m_goi hH (va_runS (As := [.long y_166]) (rest := []) ⟨hx, hb, hml, hown, hts⟩ (c_X6_four l G f y_166) (va_cwS 1 hts gX6_isAct_X6_four rfl rfl rfl (by decide +kernel) ⟨Nat.le_of_ble_eq_true rfl, Nat.le_of_ble_eq_true rfl⟩) (m_preS hC hH) rfl rfl hl.1 rfl (lv_room (Nat.le_of_ble_eq_true rfl)) dX6_isAct_276 ⟨Nat.le_of_ble_eq_true rfl, Nat.le_of_ble_eq_true rfl⟩) (fun r_167 rho_169 f_168 H locs hw hH => ?_)
        obtain ⟨hu, hr_167⟩ := hw
        have hu : f_168 = f := hu
        rw [hu] at hH
        refine lv_if_eq (tgt := 304) hx hb dX6_isAct_279 (by decide) (fun c_170 => ?_) (fun c_170 => ?_)
        · skip
          have ic_170 : (r_167.toInt : Int) = 0 := ic_eq rfl kI_0 c_170
          refine lv_iconst (v := 0) hx hb dX6_isAct_304 (by decide) ?_
          exact m_zret (v := 0) hx hb hr (by rfl) hlk hC hH (fun _ => (0, 0)) ⟨rfl, Or.inr ⟨kI_0, okA_no6 11 jk_1 (fun f0 f1 f2 f3 f4 => by have g0 := fit_get (m := 3) rfl (by decide) kI_3 f0; have g1 := fit_get (m := 7) rfl (by decide) kI_7 f1; have g2 := fit_get (m := 3) rfl (by decide) kI_3 f2; have g3 := fit_get (m := 7) rfl (by decide) kI_7 f3; have g4 := fit_get (m := 3) rfl (by decide) kI_3 f4; omega)⟩⟩ (Nat.le_of_ble_eq_true rfl) (Nat.le_of_ble_eq_true rfl) dX6_isAct_305
        · skip
          have ic_170 : (r_167.toInt : Int) ≠ 0 := ic_ne rfl kI_0 c_170
          refine lv_iload hx hb dX6_isAct_282 (lv_at hl 4 rfl) ?_
          refine lv_i2l hx hb dX6_isAct_284 rfl ?_
          refine lv_topl (fun y_171 ey_171 => ?_)
          have iy_171 : y_171.toInt = d_.toInt := lc_i2l ey_171 rfl
          have gy_171 := ic_rng d_
          refine m_goi hH (va_runS (As := [.long y_171]) (rest := []) ⟨hx, hb, hml, hown, hts⟩ (c_X6_eight l G f y_171) (va_cwS 1 hts gX6_isAct_X6_eight rfl rfl rfl (by decide +kernel) ⟨Nat.le_of_ble_eq_true rfl, Nat.le_of_ble_eq_true rfl⟩) (m_preS hC hH) rfl rfl hl.1 rfl (lv_room (Nat.le_of_ble_eq_true rfl)) dX6_isAct_285 ⟨Nat.le_of_ble_eq_true rfl, Nat.le_of_ble_eq_true rfl⟩) (fun r_172 rho_174 f_173 H locs hw hH => ?_)
          obtain ⟨hu, hr_172⟩ := hw
          have hu : f_173 = f := hu
          rw [hu] at hH
          refine lv_if_eq (tgt := 304) hx hb dX6_isAct_288 (by decide) (fun c_175 => ?_) (fun c_175 => ?_)
          · skip
            have ic_175 : (r_172.toInt : Int) = 0 := ic_eq rfl kI_0 c_175
            refine lv_iconst (v := 0) hx hb dX6_isAct_304 (by decide) ?_
            exact m_zret (v := 0) hx hb hr (by rfl) hlk hC hH (fun _ => (0, 0)) ⟨rfl, Or.inr ⟨kI_0, okA_no6 11 jk_1 (fun f0 f1 f2 f3 f4 => by have g0 := fit_get (m := 3) rfl (by decide) kI_3 f0; have g1 := fit_get (m := 7) rfl (by decide) kI_7 f1; have g2 := fit_get (m := 3) rfl (by decide) kI_3 f2; have g3 := fit_get (m := 7) rfl (by decide) kI_7 f3; have g4 := fit_get (m := 3) rfl (by decide) kI_3 f4; omega)⟩⟩ (Nat.le_of_ble_eq_true rfl) (Nat.le_of_ble_eq_true rfl) dX6_isAct_305
          · skip
            have ic_175 : (r_172.toInt : Int) ≠ 0 := ic_ne rfl kI_0 c_175
            refine lv_iload hx hb dX6_isAct_291 (lv_at hl 5 rfl) ?_
            refine lv_i2l hx hb dX6_isAct_293 rfl ?_
            refine lv_topl (fun y_176 ey_176 => ?_)
            have iy_176 : y_176.toInt = e_.toInt := lc_i2l ey_176 rfl
            have gy_176 := ic_rng e_
            refine m_goi hH (va_runS (As := [.long y_176]) (rest := []) ⟨hx, hb, hml, hown, hts⟩ (c_X6_four l G f y_176) (va_cwS 1 hts gX6_isAct_X6_four rfl rfl rfl (by decide +kernel) ⟨Nat.le_of_ble_eq_true rfl, Nat.le_of_ble_eq_true rfl⟩) (m_preS hC hH) rfl rfl hl.1 rfl (lv_room (Nat.le_of_ble_eq_true rfl)) dX6_isAct_294 ⟨Nat.le_of_ble_eq_true rfl, Nat.le_of_ble_eq_true rfl⟩) (fun r_177 rho_179 f_178 H locs hw hH => ?_)
            obtain ⟨hu, hr_177⟩ := hw
            have hu : f_178 = f := hu
            rw [hu] at hH
            refine lv_if_eq (tgt := 304) hx hb dX6_isAct_297 (by decide) (fun c_180 => ?_) (fun c_180 => ?_)
            · skip
              have ic_180 : (r_177.toInt : Int) = 0 := ic_eq rfl kI_0 c_180
              refine lv_iconst (v := 0) hx hb dX6_isAct_304 (by decide) ?_
              exact m_zret (v := 0) hx hb hr (by rfl) hlk hC hH (fun _ => (0, 0)) ⟨rfl, Or.inr ⟨kI_0, okA_no6 11 jk_1 (fun f0 f1 f2 f3 f4 => by have g0 := fit_get (m := 3) rfl (by decide) kI_3 f0; have g1 := fit_get (m := 7) rfl (by decide) kI_7 f1; have g2 := fit_get (m := 3) rfl (by decide) kI_3 f2; have g3 := fit_get (m := 7) rfl (by decide) kI_7 f3; have g4 := fit_get (m := 3) rfl (by decide) kI_3 f4; omega)⟩⟩ (Nat.le_of_ble_eq_true rfl) (Nat.le_of_ble_eq_true rfl) dX6_isAct_305
            · skip
              have ic_180 : (r_177.toInt : Int) ≠ 0 := ic_ne rfl kI_0 c_180
              refine lv_iconst (v := 1) hx hb dX6_isAct_300 (by decide) ?_
              refine lv_goto (tgt := 305) hx hb dX6_isAct_301 (by decide) ?_
              exact m_zret (v := 1) hx hb hr (by rfl) hlk hC hH (fun _ => (0, 0)) ⟨rfl, Or.inl ⟨kI_1, okA_mk6 11 (by decide) jk_1 (fit_in (m := 3) rfl kI_3 (by omega) (by omega)) (fit_in (m := 7) rfl kI_7 (by omega) (by omega)) (fit_in (m := 3) rfl kI_3 (by omega) (by omega)) (fit_in (m := 7) rfl kI_7 (by omega) (by omega)) (fit_in (m := 3) rfl kI_3 (by omega) (by omega))⟩⟩ (Nat.le_of_ble_eq_true rfl) (Nat.le_of_ble_eq_true rfl) dX6_isAct_305
  · skip
    have jk_1 : kd.toInt = 12 := hk_1
    refine lv_tableIn (off := 89) (tgt := 90) hx hb dX6_isAct_1 (by rw [jk_1]; decide) (by rw [jk_1]; decide) (by rw [jk_1]; rfl) (by decide) ?_
    refine lv_iload_n hx hb dX6_isAct_90 rfl (lv_at hl 1 rfl) ?_
    refine lv_i2l hx hb dX6_isAct_91 rfl ?_
    refine lv_topl (fun y_181 ey_181 => ?_)
    have iy_181 : y_181.toInt = a.toInt := lc_i2l ey_181 rfl
    have gy_181 := ic_rng a
    refine m_goi hH (va_runS (As := [.long y_181]) (rest := []) ⟨hx, hb, hml, hown, hts⟩ (c_X6_four l G f y_181) (va_cwS 1 hts gX6_isAct_X6_four rfl rfl rfl (by decide +kernel) ⟨Nat.le_of_ble_eq_true rfl, Nat.le_of_ble_eq_true rfl⟩) (m_preS hC hH) rfl rfl hl.1 rfl (lv_room (Nat.le_of_ble_eq_true rfl)) dX6_isAct_92 ⟨Nat.le_of_ble_eq_true rfl, Nat.le_of_ble_eq_true rfl⟩) (fun r_182 rho_184 f_183 H locs hw hH => ?_)
    obtain ⟨hu, hr_182⟩ := hw
    have hu : f_183 = f := hu
    rw [hu] at hH
    refine lv_if_eq (tgt := 118) hx hb dX6_isAct_95 (by decide) (fun c_185 => ?_) (fun c_185 => ?_)
    · skip
      have ic_185 : (r_182.toInt : Int) = 0 := ic_eq rfl kI_0 c_185
      refine lv_iconst (v := 0) hx hb dX6_isAct_118 (by decide) ?_
      exact m_zret (v := 0) hx hb hr (by rfl) hlk hC hH (fun _ => (0, 0)) ⟨rfl, Or.inr ⟨kI_0, okA_no6 12 jk_1 (fun f0 f1 f2 f3 f4 => by have g0 := fit_get (m := 3) rfl (by decide) kI_3 f0; have g1 := fit_get (m := 3) rfl (by decide) kI_3 f1; have g2 := fit_get (m := 3) rfl (by decide) kI_3 f2; omega)⟩⟩ (Nat.le_of_ble_eq_true rfl) (Nat.le_of_ble_eq_true rfl) dX6_isAct_119
    · skip
      have ic_185 : (r_182.toInt : Int) ≠ 0 := ic_ne rfl kI_0 c_185
      refine lv_lload_n hx hb dX6_isAct_98 rfl (lv_at hl 2 rfl) ?_
      refine m_goi hH (va_runS (As := [.long b]) (rest := []) ⟨hx, hb, hml, hown, hts⟩ (c_X6_four l G f b) (va_cwS 1 hts gX6_isAct_X6_four rfl rfl rfl (by decide +kernel) ⟨Nat.le_of_ble_eq_true rfl, Nat.le_of_ble_eq_true rfl⟩) (m_preS hC hH) rfl rfl hl.1 rfl (lv_room (Nat.le_of_ble_eq_true rfl)) dX6_isAct_99 ⟨Nat.le_of_ble_eq_true rfl, Nat.le_of_ble_eq_true rfl⟩) (fun r_186 rho_188 f_187 H locs hw hH => ?_)
      obtain ⟨hu, hr_186⟩ := hw
      have hu : f_187 = f := hu
      rw [hu] at hH
      refine lv_if_eq (tgt := 118) hx hb dX6_isAct_102 (by decide) (fun c_189 => ?_) (fun c_189 => ?_)
      · skip
        have ic_189 : (r_186.toInt : Int) = 0 := ic_eq rfl kI_0 c_189
        refine lv_iconst (v := 0) hx hb dX6_isAct_118 (by decide) ?_
        exact m_zret (v := 0) hx hb hr (by rfl) hlk hC hH (fun _ => (0, 0)) ⟨rfl, Or.inr ⟨kI_0, okA_no6 12 jk_1 (fun f0 f1 f2 f3 f4 => by have g0 := fit_get (m := 3) rfl (by decide) kI_3 f0; have g1 := fit_get (m := 3) rfl (by decide) kI_3 f1; have g2 := fit_get (m := 3) rfl (by decide) kI_3 f2; omega)⟩⟩ (Nat.le_of_ble_eq_true rfl) (Nat.le_of_ble_eq_true rfl) dX6_isAct_119
      · skip
        have ic_189 : (r_186.toInt : Int) ≠ 0 := ic_ne rfl kI_0 c_189
        refine lv_iload hx hb dX6_isAct_105 (lv_at hl 3 rfl) ?_
        refine lv_i2l hx hb dX6_isAct_107 rfl ?_
        refine lv_topl (fun y_190 ey_190 => ?_)
        have iy_190 : y_190.toInt = c_.toInt := lc_i2l ey_190 rfl
        have gy_190 := ic_rng c_
        refine m_goi hH (va_runS (As := [.long y_190]) (rest := []) ⟨hx, hb, hml, hown, hts⟩ (c_X6_four l G f y_190) (va_cwS 1 hts gX6_isAct_X6_four rfl rfl rfl (by decide +kernel) ⟨Nat.le_of_ble_eq_true rfl, Nat.le_of_ble_eq_true rfl⟩) (m_preS hC hH) rfl rfl hl.1 rfl (lv_room (Nat.le_of_ble_eq_true rfl)) dX6_isAct_108 ⟨Nat.le_of_ble_eq_true rfl, Nat.le_of_ble_eq_true rfl⟩) (fun r_191 rho_193 f_192 H locs hw hH => ?_)
        obtain ⟨hu, hr_191⟩ := hw
        have hu : f_192 = f := hu
        rw [hu] at hH
        refine lv_if_eq (tgt := 118) hx hb dX6_isAct_111 (by decide) (fun c_194 => ?_) (fun c_194 => ?_)
        · skip
          have ic_194 : (r_191.toInt : Int) = 0 := ic_eq rfl kI_0 c_194
          refine lv_iconst (v := 0) hx hb dX6_isAct_118 (by decide) ?_
          exact m_zret (v := 0) hx hb hr (by rfl) hlk hC hH (fun _ => (0, 0)) ⟨rfl, Or.inr ⟨kI_0, okA_no6 12 jk_1 (fun f0 f1 f2 f3 f4 => by have g0 := fit_get (m := 3) rfl (by decide) kI_3 f0; have g1 := fit_get (m := 3) rfl (by decide) kI_3 f1; have g2 := fit_get (m := 3) rfl (by decide) kI_3 f2; omega)⟩⟩ (Nat.le_of_ble_eq_true rfl) (Nat.le_of_ble_eq_true rfl) dX6_isAct_119
        · skip
          have ic_194 : (r_191.toInt : Int) ≠ 0 := ic_ne rfl kI_0 c_194
          refine lv_iconst (v := 1) hx hb dX6_isAct_114 (by decide) ?_
          refine lv_goto (tgt := 119) hx hb dX6_isAct_115 (by decide) ?_
          exact m_zret (v := 1) hx hb hr (by rfl) hlk hC hH (fun _ => (0, 0)) ⟨rfl, Or.inl ⟨kI_1, okA_mk6 12 (by decide) jk_1 (fit_in (m := 3) rfl kI_3 (by omega) (by omega)) (fit_in (m := 3) rfl kI_3 (by omega) (by omega)) (fit_in (m := 3) rfl kI_3 (by omega) (by omega)) (Or.inl rfl) (Or.inl rfl)⟩⟩ (Nat.le_of_ble_eq_true rfl) (Nat.le_of_ble_eq_true rfl) dX6_isAct_119
  · skip
    have jk_1 : kd.toInt = 13 := hk_1
    refine lv_tableIn (off := 89) (tgt := 90) hx hb dX6_isAct_1 (by rw [jk_1]; decide) (by rw [jk_1]; decide) (by rw [jk_1]; rfl) (by decide) ?_
    refine lv_iload_n hx hb dX6_isAct_90 rfl (lv_at hl 1 rfl) ?_
    refine lv_i2l hx hb dX6_isAct_91 rfl ?_
    refine lv_topl (fun y_195 ey_195 => ?_)
    have iy_195 : y_195.toInt = a.toInt := lc_i2l ey_195 rfl
    have gy_195 := ic_rng a
    refine m_goi hH (va_runS (As := [.long y_195]) (rest := []) ⟨hx, hb, hml, hown, hts⟩ (c_X6_four l G f y_195) (va_cwS 1 hts gX6_isAct_X6_four rfl rfl rfl (by decide +kernel) ⟨Nat.le_of_ble_eq_true rfl, Nat.le_of_ble_eq_true rfl⟩) (m_preS hC hH) rfl rfl hl.1 rfl (lv_room (Nat.le_of_ble_eq_true rfl)) dX6_isAct_92 ⟨Nat.le_of_ble_eq_true rfl, Nat.le_of_ble_eq_true rfl⟩) (fun r_196 rho_198 f_197 H locs hw hH => ?_)
    obtain ⟨hu, hr_196⟩ := hw
    have hu : f_197 = f := hu
    rw [hu] at hH
    refine lv_if_eq (tgt := 118) hx hb dX6_isAct_95 (by decide) (fun c_199 => ?_) (fun c_199 => ?_)
    · skip
      have ic_199 : (r_196.toInt : Int) = 0 := ic_eq rfl kI_0 c_199
      refine lv_iconst (v := 0) hx hb dX6_isAct_118 (by decide) ?_
      exact m_zret (v := 0) hx hb hr (by rfl) hlk hC hH (fun _ => (0, 0)) ⟨rfl, Or.inr ⟨kI_0, okA_no6 13 jk_1 (fun f0 f1 f2 f3 f4 => by have g0 := fit_get (m := 3) rfl (by decide) kI_3 f0; have g1 := fit_get (m := 3) rfl (by decide) kI_3 f1; have g2 := fit_get (m := 3) rfl (by decide) kI_3 f2; omega)⟩⟩ (Nat.le_of_ble_eq_true rfl) (Nat.le_of_ble_eq_true rfl) dX6_isAct_119
    · skip
      have ic_199 : (r_196.toInt : Int) ≠ 0 := ic_ne rfl kI_0 c_199
      refine lv_lload_n hx hb dX6_isAct_98 rfl (lv_at hl 2 rfl) ?_
      refine m_goi hH (va_runS (As := [.long b]) (rest := []) ⟨hx, hb, hml, hown, hts⟩ (c_X6_four l G f b) (va_cwS 1 hts gX6_isAct_X6_four rfl rfl rfl (by decide +kernel) ⟨Nat.le_of_ble_eq_true rfl, Nat.le_of_ble_eq_true rfl⟩) (m_preS hC hH) rfl rfl hl.1 rfl (lv_room (Nat.le_of_ble_eq_true rfl)) dX6_isAct_99 ⟨Nat.le_of_ble_eq_true rfl, Nat.le_of_ble_eq_true rfl⟩) (fun r_200 rho_202 f_201 H locs hw hH => ?_)
      obtain ⟨hu, hr_200⟩ := hw
      have hu : f_201 = f := hu
      rw [hu] at hH
      refine lv_if_eq (tgt := 118) hx hb dX6_isAct_102 (by decide) (fun c_203 => ?_) (fun c_203 => ?_)
      · skip
        have ic_203 : (r_200.toInt : Int) = 0 := ic_eq rfl kI_0 c_203
        refine lv_iconst (v := 0) hx hb dX6_isAct_118 (by decide) ?_
        exact m_zret (v := 0) hx hb hr (by rfl) hlk hC hH (fun _ => (0, 0)) ⟨rfl, Or.inr ⟨kI_0, okA_no6 13 jk_1 (fun f0 f1 f2 f3 f4 => by have g0 := fit_get (m := 3) rfl (by decide) kI_3 f0; have g1 := fit_get (m := 3) rfl (by decide) kI_3 f1; have g2 := fit_get (m := 3) rfl (by decide) kI_3 f2; omega)⟩⟩ (Nat.le_of_ble_eq_true rfl) (Nat.le_of_ble_eq_true rfl) dX6_isAct_119
      · skip
        have ic_203 : (r_200.toInt : Int) ≠ 0 := ic_ne rfl kI_0 c_203
        refine lv_iload hx hb dX6_isAct_105 (lv_at hl 3 rfl) ?_
        refine lv_i2l hx hb dX6_isAct_107 rfl ?_
        refine lv_topl (fun y_204 ey_204 => ?_)
        have iy_204 : y_204.toInt = c_.toInt := lc_i2l ey_204 rfl
        have gy_204 := ic_rng c_
        refine m_goi hH (va_runS (As := [.long y_204]) (rest := []) ⟨hx, hb, hml, hown, hts⟩ (c_X6_four l G f y_204) (va_cwS 1 hts gX6_isAct_X6_four rfl rfl rfl (by decide +kernel) ⟨Nat.le_of_ble_eq_true rfl, Nat.le_of_ble_eq_true rfl⟩) (m_preS hC hH) rfl rfl hl.1 rfl (lv_room (Nat.le_of_ble_eq_true rfl)) dX6_isAct_108 ⟨Nat.le_of_ble_eq_true rfl, Nat.le_of_ble_eq_true rfl⟩) (fun r_205 rho_207 f_206 H locs hw hH => ?_)
        obtain ⟨hu, hr_205⟩ := hw
        have hu : f_206 = f := hu
        rw [hu] at hH
        refine lv_if_eq (tgt := 118) hx hb dX6_isAct_111 (by decide) (fun c_208 => ?_) (fun c_208 => ?_)
        · skip
          have ic_208 : (r_205.toInt : Int) = 0 := ic_eq rfl kI_0 c_208
          refine lv_iconst (v := 0) hx hb dX6_isAct_118 (by decide) ?_
          exact m_zret (v := 0) hx hb hr (by rfl) hlk hC hH (fun _ => (0, 0)) ⟨rfl, Or.inr ⟨kI_0, okA_no6 13 jk_1 (fun f0 f1 f2 f3 f4 => by have g0 := fit_get (m := 3) rfl (by decide) kI_3 f0; have g1 := fit_get (m := 3) rfl (by decide) kI_3 f1; have g2 := fit_get (m := 3) rfl (by decide) kI_3 f2; omega)⟩⟩ (Nat.le_of_ble_eq_true rfl) (Nat.le_of_ble_eq_true rfl) dX6_isAct_119
        · skip
          have ic_208 : (r_205.toInt : Int) ≠ 0 := ic_ne rfl kI_0 c_208
          refine lv_iconst (v := 1) hx hb dX6_isAct_114 (by decide) ?_
          refine lv_goto (tgt := 119) hx hb dX6_isAct_115 (by decide) ?_
          exact m_zret (v := 1) hx hb hr (by rfl) hlk hC hH (fun _ => (0, 0)) ⟨rfl, Or.inl ⟨kI_1, okA_mk6 13 (by decide) jk_1 (fit_in (m := 3) rfl kI_3 (by omega) (by omega)) (fit_in (m := 3) rfl kI_3 (by omega) (by omega)) (fit_in (m := 3) rfl kI_3 (by omega) (by omega)) (Or.inl rfl) (Or.inl rfl)⟩⟩ (Nat.le_of_ble_eq_true rfl) (Nat.le_of_ble_eq_true rfl) dX6_isAct_119
  · skip
    have jk_1 : kd.toInt = 14 := hk_1
    refine lv_tableIn (off := 305) (tgt := 306) hx hb dX6_isAct_1 (by rw [jk_1]; decide) (by rw [jk_1]; decide) (by rw [jk_1]; rfl) (by decide) ?_
    refine lv_lload_n hx hb dX6_isAct_306 rfl (lv_at hl 2 rfl) ?_
    refine lv_lconst (v := 0) hx hb dX6_isAct_307 (by decide) ?_
    refine lv_ldc2 (v := 32) hx hb hown (hts (.constantLong RX6 141 (32)) (by decide +kernel)) dX6_isAct_308 ?_
    refine m_goi hH (va_runS (As := [.long b, .long 0, .long 32]) (rest := []) ⟨hx, hb, hml, hown, hts⟩ (c_X6_in l G f b 0 32) (va_cwS 3 hts gX6_isAct_X6_in rfl rfl rfl (by decide +kernel) ⟨Nat.le_of_ble_eq_true rfl, Nat.le_of_ble_eq_true rfl⟩) (m_preS hC hH) rfl rfl hl.1 rfl (lv_room (Nat.le_of_ble_eq_true rfl)) dX6_isAct_311 ⟨Nat.le_of_ble_eq_true rfl, Nat.le_of_ble_eq_true rfl⟩) (fun r_209 rho_211 f_210 H locs hw hH => ?_)
    obtain ⟨hu, hr_209⟩ := hw
    have hu : f_210 = f := hu
    rw [hu] at hH
    have hr_209 : (r_209.toInt = 1 ∧ 0 ≤ b.toInt ∧ b.toInt ≤ 32) ∨ (r_209.toInt = 0 ∧ (b.toInt < 0 ∨ 32 < b.toInt)) := by have q0 := (rfl : b.toInt = _); have q1 := kJ_0; have q2 := kJ_32; omega
    exact m_zret (v := r_209) hx hb hr (ic_nar _ (by omega)) hlk hC hH (fun _ => (0, 0)) ⟨rfl, by rcases hr_209 with hh_ | hh_; exact Or.inl ⟨hh_.1, okA_mk6 14 (by decide) jk_1 (Or.inl rfl) (fit_in (m := 32) rfl kI_32 (by omega) (by omega)) (Or.inl rfl) (Or.inl rfl) (Or.inl rfl)⟩; exact Or.inr ⟨hh_.1, okA_no6 14 jk_1 (fun f0 f1 f2 f3 f4 => by have g1 := fit_get (m := 32) rfl (by decide) kI_32 f1; omega)⟩⟩ (Nat.le_of_ble_eq_true rfl) (Nat.le_of_ble_eq_true rfl) dX6_isAct_314
  · skip
    have jk_1 : kd.toInt = 15 := hk_1
    refine lv_tableIn (off := 314) (tgt := 315) hx hb dX6_isAct_1 (by rw [jk_1]; decide) (by rw [jk_1]; decide) (by rw [jk_1]; rfl) (by decide) ?_
    refine lv_iload_n hx hb dX6_isAct_315 rfl (lv_at hl 1 rfl) ?_
    refine lv_i2l hx hb dX6_isAct_316 rfl ?_
    refine lv_topl (fun y_212 ey_212 => ?_)
    have iy_212 : y_212.toInt = a.toInt := lc_i2l ey_212 rfl
    have gy_212 := ic_rng a
    refine m_goi hH (va_runS (As := [.long y_212]) (rest := []) ⟨hx, hb, hml, hown, hts⟩ (c_X6_four l G f y_212) (va_cwS 1 hts gX6_isAct_X6_four rfl rfl rfl (by decide +kernel) ⟨Nat.le_of_ble_eq_true rfl, Nat.le_of_ble_eq_true rfl⟩) (m_preS hC hH) rfl rfl hl.1 rfl (lv_room (Nat.le_of_ble_eq_true rfl)) dX6_isAct_317 ⟨Nat.le_of_ble_eq_true rfl, Nat.le_of_ble_eq_true rfl⟩) (fun r_213 rho_215 f_214 H locs hw hH => ?_)
    obtain ⟨hu, hr_213⟩ := hw
    have hu : f_214 = f := hu
    rw [hu] at hH
    refine lv_if_eq (tgt := 338) hx hb dX6_isAct_320 (by decide) (fun c_216 => ?_) (fun c_216 => ?_)
    · skip
      have ic_216 : (r_213.toInt : Int) = 0 := ic_eq rfl kI_0 c_216
      refine lv_iconst (v := 0) hx hb dX6_isAct_338 (by decide) ?_
      exact m_zret (v := 0) hx hb hr (by rfl) hlk hC hH (fun _ => (0, 0)) ⟨rfl, Or.inr ⟨kI_0, okA_no6 15 jk_1 (fun f0 f1 f2 f3 f4 => by have g0 := fit_get (m := 3) rfl (by decide) kI_3 f0; have g1 := fit_get (m := 32) rfl (by decide) kI_32 f1; omega)⟩⟩ (Nat.le_of_ble_eq_true rfl) (Nat.le_of_ble_eq_true rfl) dX6_isAct_339
    · skip
      have ic_216 : (r_213.toInt : Int) ≠ 0 := ic_ne rfl kI_0 c_216
      refine lv_lload_n hx hb dX6_isAct_323 rfl (lv_at hl 2 rfl) ?_
      refine lv_lconst (v := 0) hx hb dX6_isAct_324 (by decide) ?_
      refine lv_ldc2 (v := 32) hx hb hown (hts (.constantLong RX6 141 (32)) (by decide +kernel)) dX6_isAct_325 ?_
      refine m_goi hH (va_runS (As := [.long b, .long 0, .long 32]) (rest := []) ⟨hx, hb, hml, hown, hts⟩ (c_X6_in l G f b 0 32) (va_cwS 3 hts gX6_isAct_X6_in rfl rfl rfl (by decide +kernel) ⟨Nat.le_of_ble_eq_true rfl, Nat.le_of_ble_eq_true rfl⟩) (m_preS hC hH) rfl rfl hl.1 rfl (lv_room (Nat.le_of_ble_eq_true rfl)) dX6_isAct_328 ⟨Nat.le_of_ble_eq_true rfl, Nat.le_of_ble_eq_true rfl⟩) (fun r_217 rho_219 f_218 H locs hw hH => ?_)
      obtain ⟨hu, hr_217⟩ := hw
      have hu : f_218 = f := hu
      rw [hu] at hH
      have hr_217 : (r_217.toInt = 1 ∧ 0 ≤ b.toInt ∧ b.toInt ≤ 32) ∨ (r_217.toInt = 0 ∧ (b.toInt < 0 ∨ 32 < b.toInt)) := by have q0 := (rfl : b.toInt = _); have q1 := kJ_0; have q2 := kJ_32; omega
      refine lv_if_eq (tgt := 338) hx hb dX6_isAct_331 (by decide) (fun c_220 => ?_) (fun c_220 => ?_)
      · skip
        have ic_220 : (r_217.toInt : Int) = 0 := ic_eq rfl kI_0 c_220
        refine lv_iconst (v := 0) hx hb dX6_isAct_338 (by decide) ?_
        exact m_zret (v := 0) hx hb hr (by rfl) hlk hC hH (fun _ => (0, 0)) ⟨rfl, Or.inr ⟨kI_0, okA_no6 15 jk_1 (fun f0 f1 f2 f3 f4 => by have g0 := fit_get (m := 3) rfl (by decide) kI_3 f0; have g1 := fit_get (m := 32) rfl (by decide) kI_32 f1; omega)⟩⟩ (Nat.le_of_ble_eq_true rfl) (Nat.le_of_ble_eq_true rfl) dX6_isAct_339
      · skip
        have ic_220 : (r_217.toInt : Int) ≠ 0 := ic_ne rfl kI_0 c_220
        refine lv_iconst (v := 1) hx hb dX6_isAct_334 (by decide) ?_
        refine lv_goto (tgt := 339) hx hb dX6_isAct_335 (by decide) ?_
        exact m_zret (v := 1) hx hb hr (by rfl) hlk hC hH (fun _ => (0, 0)) ⟨rfl, Or.inl ⟨kI_1, okA_mk6 15 (by decide) jk_1 (fit_in (m := 3) rfl kI_3 (by omega) (by omega)) (fit_in (m := 32) rfl kI_32 (by omega) (by omega)) (Or.inl rfl) (Or.inl rfl) (Or.inl rfl)⟩⟩ (Nat.le_of_ble_eq_true rfl) (Nat.le_of_ble_eq_true rfl) dX6_isAct_339
  · skip
    have jk_1 : kd.toInt = 16 := hk_1
    refine lv_tableIn (off := 83) (tgt := 84) hx hb dX6_isAct_1 (by rw [jk_1]; decide) (by rw [jk_1]; decide) (by rw [jk_1]; rfl) (by decide) ?_
    refine lv_iload_n hx hb dX6_isAct_84 rfl (lv_at hl 1 rfl) ?_
    refine lv_i2l hx hb dX6_isAct_85 rfl ?_
    refine lv_topl (fun y_221 ey_221 => ?_)
    have iy_221 : y_221.toInt = a.toInt := lc_i2l ey_221 rfl
    have gy_221 := ic_rng a
    refine m_goi hH (va_runS (As := [.long y_221]) (rest := []) ⟨hx, hb, hml, hown, hts⟩ (c_X6_four l G f y_221) (va_cwS 1 hts gX6_isAct_X6_four rfl rfl rfl (by decide +kernel) ⟨Nat.le_of_ble_eq_true rfl, Nat.le_of_ble_eq_true rfl⟩) (m_preS hC hH) rfl rfl hl.1 rfl (lv_room (Nat.le_of_ble_eq_true rfl)) dX6_isAct_86 ⟨Nat.le_of_ble_eq_true rfl, Nat.le_of_ble_eq_true rfl⟩) (fun r_222 rho_224 f_223 H locs hw hH => ?_)
    obtain ⟨hu, hr_222⟩ := hw
    have hu : f_223 = f := hu
    rw [hu] at hH
    exact m_zret (v := r_222) hx hb hr (ic_nar _ (by omega)) hlk hC hH (fun _ => (0, 0)) ⟨rfl, by rcases hr_222 with hh_ | hh_; exact Or.inl ⟨hh_.1, okA_mk6 16 (by decide) jk_1 (fit_in (m := 3) rfl kI_3 (by omega) (by omega)) (Or.inl rfl) (Or.inl rfl) (Or.inl rfl) (Or.inl rfl)⟩; exact Or.inr ⟨hh_.1, okA_no6 16 jk_1 (fun f0 f1 f2 f3 f4 => by have g0 := fit_get (m := 3) rfl (by decide) kI_3 f0; omega)⟩⟩ (Nat.le_of_ble_eq_true rfl) (Nat.le_of_ble_eq_true rfl) dX6_isAct_89
set_option maxHeartbeats 4000000 in
set_option maxRecDepth 100000 in
theorem c_X6_at (l : Launch) (G : mG) (f : mF) (j : Int32) (hjj : 0 ≤ j.toInt ∧ j.toInt < 192) : Met l yX6_at wsX6_at ({ frames := 0, cells := 0, slots := 0, locals := 0 }) (va_Pc [.int j] (mW G f)) (va_Qi (fun (r : Int32) (u : mS) => u.2 = f ∧ r.toInt = 7872 + j.toInt) (fun (u : mS) t => mW G u.2 t) (mA G)) 0 0 (mA G) := by
  refine mMet [.int j] (cc := cX6_at) (maxL := 1) (ret := (some .int)) (by decide) rfl (Nat.le_of_ble_eq_true rfl) ?_
  intro p e s m below meth c ls hx hb hr hml hts hown hlk hnm hC hH hl
  have hl : lv_has ls 1 [(0, .int j)] := hl
  refine lv_sipush (v := 7872) hx hb dX6_at_0 (by decide) ?_
  refine lv_iload_n hx hb dX6_at_3 rfl (lv_at hl 0 rfl) ?_
  refine lv_iadd hx hb dX6_at_4 ?_
  refine lv_topi (fun x_1 ex_1 => ?_)
  have ix_1 : x_1.toInt = 7872 + j.toInt := ic_add ex_1 kI_7872 rfl (by omega) (by omega)
  exact m_iret (v := x_1) hx hb hr hlk hC hH (fun _ => (0, 0)) ⟨rfl, by omega⟩ (Nat.le_of_ble_eq_true rfl) (Nat.le_of_ble_eq_true rfl) dX6_at_5
