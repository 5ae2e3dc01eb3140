set_option maxHeartbeats 4000000 in
set_option maxRecDepth 100000 in
theorem c_X6_gave (l : Launch) (G : mG) (h : Nat → Nat) (n : Nat) (T z : Nat → Nat) (A : Nat → tA) (hg : Nat) (ver : Nat → Nat → tB) (cq : Nat → Bool) (fe : Int32) (tms : Nat → Int32) (ca : Int32) (wl : List Nat) (wh : Int32) (ac th : Nat) (sx : Int32) (σ : tS) (f : mF) (hI : FM G h n T z A hg ver cq fe tms ca wl wh ac th sx σ f) : Met l yX6_gave wsX6_gave ({ frames := 0, cells := 0, slots := 0, locals := 0 }) (va_Pc [.ref (h 0)] (mW G f)) (va_Ql (fun (r : Int64) (u : mS) => u.2 = f ∧ r = gfS σ) (fun (u : mS) t => mW G u.2 t) (mA G)) 0 0 (mA G) := by
  refine mMet [.ref (h 0)] (cc := cX6_gave) (maxL := 1) (ret := (some .long)) (by decide) rfl (Nat.le_of_ble_eq_true rfl) ?_
  intro p e s m below meth c ls hx hb hr hml hts hown hlk hnm hC hH hl
  have hl : lv_has ls 1 [(0, .ref (h 0))] := hl
  have hI0_ := hI
  have hfr : frM h f f := frM.rf
  obtain ⟨I_1, J_1, hM, hR, hac_1, hth_1⟩ := hI
  have hg_1 := hR.hg40
  have n24_1 := hR.n24
  have tl_1 := len_b hR.ok.2.2.1
  have wl_1 := hR.wl192
  have hgI_1 : (nI hg).toInt = ((hg : Nat) : Int) := nI_toInt (by omega)
  have tmI_1 : (nI ((trS σ).length)).toInt = (((trS σ).length : Nat) : Int) := nI_toInt (by omega)
  have wmI_1 : (nI wl.length).toInt = ((wl.length : Nat) : Int) := nI_toInt (by omega)
  have acI_1 : (nI ac).toInt = ((ac : Nat) : Int) := nI_toInt (by omega)
  have thI_1 : (nI th).toInt = ((th : Nat) : Int) := nI_toInt (by omega)
  have nIn_1 : (nI n).toInt = ((n : Nat) : Int) := nI_toInt (by omega)
  refine lv_aload_n hx hb dX6_gave_0 rfl (lv_at hl 0 rfl) ?_
  have F_2 : f (h 0) = some (.inr (6, [.int (nI n), .ref (h 1), .int (nI hg), .ref (h 3), .ref (h 4), .ref (h 5), .ref (h 6), .int fe, .ref (h 8), .ref (h 9), .ref (h 10), .ref (h 11), .ref (h 12), .ref (h 13), .ref (h 14), .ref (h 15), .int ca, .long (gfS σ), .int wh, .int (nI ((trS σ).length)), .ref (h 20), .ref (h 21), .int (nI wl.length), .ref (h 23), .ref (h 24), .int (nI ac), .ref (h 26), .ref (h 27), .int (nI th), .int sx])) := hM.1
  refine m_get (ci := 6) (v := .long (gfS σ)) (C := RX6) (T := TX6) (N := 30) hx hb hC hH hts in_X6_gave_X6 hown F_2 rfl 17 (by decide) (hts (.fieldLink RX6 186 "LazyStateModel" "gave" "J") (by decide +kernel)) rfl dX6_gave_1 ?_
  exact m_lret (v := (gfS σ)) hx hb hr hlk hC hH (fun _ => (0, 0)) ⟨rfl, rfl⟩ (Nat.le_of_ble_eq_true rfl) (Nat.le_of_ble_eq_true rfl) dX6_gave_4
set_option maxHeartbeats 4000000 in
set_option maxRecDepth 100000 in
theorem c_X6_where (l : Launch) (G : mG) (h : Nat → Nat) (n : Nat) (T z : Nat → Nat) (A : Nat → tA) (hg : Nat) (ver : Nat → Nat → tB) (cq : Nat → Bool) (fe : Int32) (tms : Nat → Int32) (ca : Int32) (wl : List Nat) (wh : Int32) (ac th : Nat) (sx : Int32) (σ : tS) (f : mF) (hI : FM G h n T z A hg ver cq fe tms ca wl wh ac th sx σ f) : Met l yX6_where wsX6_where ({ frames := 0, cells := 0, slots := 0, locals := 0 }) (va_Pc [.ref (h 0)] (mW G f)) (va_Qi (fun (r : Int32) (u : mS) => u.2 = f ∧ r = wh) (fun (u : mS) t => mW G u.2 t) (mA G)) 0 0 (mA G) := by
  refine mMet [.ref (h 0)] (cc := cX6_where) (maxL := 1) (ret := (some .int)) (by decide) rfl (Nat.le_of_ble_eq_true rfl) ?_
  intro p e s m below meth c ls hx hb hr hml hts hown hlk hnm hC hH hl
  have hl : lv_has ls 1 [(0, .ref (h 0))] := hl
  have hI0_ := hI
  have hfr : frM h f f := frM.rf
  obtain ⟨I_1, J_1, hM, hR, hac_1, hth_1⟩ := hI
  have hg_1 := hR.hg40
  have n24_1 := hR.n24
  have tl_1 := len_b hR.ok.2.2.1
  have wl_1 := hR.wl192
  have hgI_1 : (nI hg).toInt = ((hg : Nat) : Int) := nI_toInt (by omega)
  have tmI_1 : (nI ((trS σ).length)).toInt = (((trS σ).length : Nat) : Int) := nI_toInt (by omega)
  have wmI_1 : (nI wl.length).toInt = ((wl.length : Nat) : Int) := nI_toInt (by omega)
  have acI_1 : (nI ac).toInt = ((ac : Nat) : Int) := nI_toInt (by omega)
  have thI_1 : (nI th).toInt = ((th : Nat) : Int) := nI_toInt (by omega)
  have nIn_1 : (nI n).toInt = ((n : Nat) : Int) := nI_toInt (by omega)
  refine lv_aload_n hx hb dX6_where_0 rfl (lv_at hl 0 rfl) ?_
  have F_2 : f (h 0) = some (.inr (6, [.int (nI n), .ref (h 1), .int (nI hg), .ref (h 3), .ref (h 4), .ref (h 5), .ref (h 6), .int fe, .ref (h 8), .ref (h 9), .ref (h 10), .ref (h 11), .ref (h 12), .ref (h 13), .ref (h 14), .ref (h 15), .int ca, .long (gfS σ), .int wh, .int (nI ((trS σ).length)), .ref (h 20), .ref (h 21), .int (nI wl.length), .ref (h 23), .ref (h 24), .int (nI ac), .ref (h 26), .ref (h 27), .int (nI th), .int sx])) := hM.1
  refine m_get (ci := 6) (v := .int wh) (C := RX6) (T := TX6) (N := 30) hx hb hC hH hts in_X6_where_X6 hown F_2 rfl 18 (by decide) (hts (.fieldLink RX6 52 "LazyStateModel" "where" "I") (by decide +kernel)) rfl dX6_where_1 ?_
  exact m_iret (v := wh) hx hb hr hlk hC hH (fun _ => (0, 0)) ⟨rfl, rfl⟩ (Nat.le_of_ble_eq_true rfl) (Nat.le_of_ble_eq_true rfl) dX6_where_4
set_option maxHeartbeats 4000000 in
set_option maxRecDepth 100000 in
theorem c_X6_status (l : Launch) (G : mG) (h : Nat → Nat) (n : Nat) (T z : Nat → Nat) (A : Nat → tA) (hg : Nat) (ver : Nat → Nat → tB) (cq : Nat → Bool) (fe : Int32) (tms : Nat → Int32) (ca : Int32) (wl : List Nat) (wh : Int32) (ac th : Nat) (sx : Int32) (σ : tS) (f : mF) (hI : FM G h n T z A hg ver cq fe tms ca wl wh ac th sx σ f) : Met l yX6_status wsX6_status ({ frames := 0, cells := 0, slots := 0, locals := 0 }) (va_Pc [.ref (h 0)] (mW G f)) (va_Qi (fun (r : Int32) (u : mS) => u.2 = f ∧ r = sx) (fun (u : mS) t => mW G u.2 t) (mA G)) 0 0 (mA G) := by
  refine mMet [.ref (h 0)] (cc := cX6_status) (maxL := 1) (ret := (some .int)) (by decide) rfl (Nat.le_of_ble_eq_true rfl) ?_
  intro p e s m below meth c ls hx hb hr hml hts hown hlk hnm hC hH hl
  have hl : lv_has ls 1 [(0, .ref (h 0))] := hl
  have hI0_ := hI
  have hfr : frM h f f := frM.rf
  obtain ⟨I_1, J_1, hM, hR, hac_1, hth_1⟩ := hI
  have hg_1 := hR.hg40
  have n24_1 := hR.n24
  have tl_1 := len_b hR.ok.2.2.1
  have wl_1 := hR.wl192
  have hgI_1 : (nI hg).toInt = ((hg : Nat) : Int) := nI_toInt (by omega)
  have tmI_1 : (nI ((trS σ).length)).toInt = (((trS σ).length : Nat) : Int) := nI_toInt (by omega)
  have wmI_1 : (nI wl.length).toInt = ((wl.length : Nat) : Int) := nI_toInt (by omega)
  have acI_1 : (nI ac).toInt = ((ac : Nat) : Int) := nI_toInt (by omega)
  have thI_1 : (nI th).toInt = ((th : Nat) : Int) := nI_toInt (by omega)
  have nIn_1 : (nI n).toInt = ((n : Nat) : Int) := nI_toInt (by omega)
  refine lv_aload_n hx hb dX6_status_0 rfl (lv_at hl 0 rfl) ?_
  have F_2 : f (h 0) = some (.inr (6, [.int (nI n), .ref (h 1), .int (nI hg), .ref (h 3), .ref (h 4), .ref (h 5), .ref (h 6), .int fe, .ref (h 8), .ref (h 9), .ref (h 10), .ref (h 11), .ref (h 12), .ref (h 13), .ref (h 14), .ref (h 15), .int ca, .long (gfS σ), .int wh, .int (nI ((trS σ).length)), .ref (h 20), .ref (h 21), .int (nI wl.length), .ref (h 23), .ref (h 24), .int (nI ac), .ref (h 26), .ref (h 27), .int (nI th), .int sx])) := hM.1
  refine m_get (ci := 6) (v := .int sx) (C := RX6) (T := TX6) (N := 30) hx hb hC hH hts in_X6_status_X6 hown F_2 rfl 29 (by decide) (hts (.fieldLink RX6 214 "LazyStateModel" "status" "I") (by decide +kernel)) rfl dX6_status_1 ?_
  exact m_iret (v := sx) hx hb hr hlk hC hH (fun _ => (0, 0)) ⟨rfl, rfl⟩ (Nat.le_of_ble_eq_true rfl) (Nat.le_of_ble_eq_true rfl) dX6_status_4
set_option maxHeartbeats 4000000 in
set_option maxRecDepth 100000 in
theorem c_X6_touched (l : Launch) (G : mG) (h : Nat → Nat) (n : Nat) (T z : Nat → Nat) (A : Nat → tA) (hg : Nat) (ver : Nat → Nat → tB) (cq : Nat → Bool) (fe : Int32) (tms : Nat → Int32) (ca : Int32) (wl : List Nat) (wh : Int32) (ac th : Nat) (sx : Int32) (σ : tS) (f : mF) (hI : FM G h n T z A hg ver cq fe tms ca wl wh ac th sx σ f) (k w_ : Int32) : Met l yX6_touched wsX6_touched ({ frames := 1, cells := 0, slots := 0, locals := 25 }) (va_Pc [.ref (h 0), .int k, .int w_] (mW G f)) (va_Qi (fun (r : Int32) (u : mS) => u.2 = f ∧ r = tchA (trS σ) k w_) (fun (u : mS) t => mW G u.2 t) (mA G)) 0 0 (mA G) := by
  refine mMet [.ref (h 0), .int k, .int w_] (cc := cX6_touched) (maxL := 3) (ret := (some .int)) (by decide) rfl (Nat.le_of_ble_eq_true rfl) ?_
  intro p e s m below meth c ls hx hb hr hml hts hown hlk hnm hC hH hl
  have hl : lv_has ls 3 [(0, .ref (h 0)), (1, .int k), (2, .int w_)] := hl
  have hI0_ := hI
  have hfr : frM h f f := frM.rf
  obtain ⟨I_1, J_1, hM, hR, hac_1, hth_1⟩ := hI
  have hg_1 := hR.hg40
  have n24_1 := hR.n24
  have tl_1 := len_b hR.ok.2.2.1
  have wl_1 := hR.wl192
  have hgI_1 : (nI hg).toInt = ((hg : Nat) : Int) := nI_toInt (by omega)
  have tmI_1 : (nI ((trS σ).length)).toInt = (((trS σ).length : Nat) : Int) := nI_toInt (by omega)
  have wmI_1 : (nI wl.length).toInt = ((wl.length : Nat) : Int) := nI_toInt (by omega)
  have acI_1 : (nI ac).toInt = ((ac : Nat) : Int) := nI_toInt (by omega)
  have thI_1 : (nI th).toInt = ((th : Nat) : Int) := nI_toInt (by omega)
  have nIn_1 : (nI n).toInt = ((n : Nat) : Int) := nI_toInt (by omega)
  refine lv_iload_n hx hb dX6_touched_0 rfl (lv_at hl 1 rfl) ?_
  refine lv_if_lt (tgt := 14) hx hb dX6_touched_1 (by decide) (fun c_2 => ?_) (fun c_2 => ?_)
  · skip
    have ic_2 : (k.toInt : Int) < 0 := ic_lt rfl kI_0 c_2
    refine lv_iconst (v := (-1)) hx hb dX6_touched_14 (by decide) ?_
    exact m_iret (v := (-1)) hx hb hr hlk hC hH (fun _ => (0, 0)) ⟨rfl, by unfold tchA; rw [if_pos (by have := kJ_0; have := kJ_1; omega)]⟩ (Nat.le_of_ble_eq_true rfl) (Nat.le_of_ble_eq_true rfl) dX6_touched_15
  · skip
    have ic_2 : (k.toInt : Int) ≥ 0 := ic_nlt rfl kI_0 c_2
    refine lv_iload_n hx hb dX6_touched_4 rfl (lv_at hl 2 rfl) ?_
    refine lv_i2l hx hb dX6_touched_5 rfl ?_
    refine lv_topl (fun y_3 ey_3 => ?_)
    have iy_3 : y_3.toInt = w_.toInt := lc_i2l ey_3 rfl
    have gy_3 := ic_rng w_
    refine lv_lconst (v := 0) hx hb dX6_touched_6 (by decide) ?_
    refine lv_lconst (v := 1) hx hb dX6_touched_7 (by decide) ?_
    refine m_goi hH (va_runS (As := [.long y_3, .long 0, .long 1]) (rest := []) ⟨hx, hb, hml, hown, hts⟩ (c_X6_in l G f y_3 0 1) (va_cwS 3 hts gX6_touched_X6_in rfl rfl rfl (by decide +kernel) ⟨Nat.le_of_ble_eq_true rfl, Nat.le_of_ble_eq_true rfl⟩) (m_preS hC hH) rfl rfl hl.1 rfl (lv_room (Nat.le_of_ble_eq_true rfl)) dX6_touched_8 ⟨Nat.le_of_ble_eq_true rfl, Nat.le_of_ble_eq_true rfl⟩) (fun r_4 rho_6 f_5 H locs hw hH => ?_)
    obtain ⟨hu, hr_4⟩ := hw
    have hu : f_5 = f := hu
    rw [hu] at hH
    have hr_4 : (r_4.toInt = 1 ∧ 0 ≤ y_3.toInt ∧ y_3.toInt ≤ 1) ∨ (r_4.toInt = 0 ∧ (y_3.toInt < 0 ∨ 1 < y_3.toInt)) := by have q0 := (rfl : y_3.toInt = _); have q1 := kJ_0; have q2 := kJ_1; omega
    refine lv_if_ne (tgt := 16) hx hb dX6_touched_11 (by decide) (fun c_7 => ?_) (fun c_7 => ?_)
    · skip
      have ic_7 : (r_4.toInt : Int) ≠ 0 := ic_ne rfl kI_0 c_7
      refine lv_iload_n hx hb dX6_touched_16 rfl (lv_at hl 1 rfl) ?_
      refine lv_aload_n hx hb dX6_touched_17 rfl (lv_at hl 0 rfl) ?_
      have F_8 : f (h 0) = some (.inr (6, [.int (nI n), .ref (h 1), .int (nI hg), .ref (h 3), .ref (h 4), .ref (h 5), .ref (h 6), .int fe, .ref (h 8), .ref (h 9), .ref (h 10), .ref (h 11), .ref (h 12), .ref (h 13), .ref (h 14), .ref (h 15), .int ca, .long (gfS σ), .int wh, .int (nI ((trS σ).length)), .ref (h 20), .ref (h 21), .int (nI wl.length), .ref (h 23), .ref (h 24), .int (nI ac), .ref (h 26), .ref (h 27), .int (nI th), .int sx])) := hM.1
      refine m_get (ci := 6) (v := .int (nI ((trS σ).length))) (C := RX6) (T := TX6) (N := 30) hx hb hC hH hts in_X6_touched_X6 hown F_8 rfl 19 (by decide) (hts (.fieldLink RX6 152 "LazyStateModel" "touchedMany" "I") (by decide +kernel)) rfl dX6_touched_18 ?_
      refine lv_icmp_lt (tgt := 29) hx hb dX6_touched_21 (by decide) (fun c_9 => ?_) (fun c_9 => ?_)
      · skip
        have ic_9 : (k.toInt : Int) < (((trS σ).length : Nat) : Int) := ic_lt rfl tmI_1 c_9
        refine lv_iload_n hx hb dX6_touched_29 rfl (lv_at hl 2 rfl) ?_
        refine lv_if_ne (tgt := 42) hx hb dX6_touched_30 (by decide) (fun c_10 => ?_) (fun c_10 => ?_)
        · skip
          have ic_10 : (w_.toInt : Int) ≠ 0 := ic_ne rfl kI_0 c_10
          refine lv_aload_n hx hb dX6_touched_42 rfl (lv_at hl 0 rfl) ?_
          refine m_get (ci := 6) (v := .ref (h 21)) (C := RX6) (T := TX6) (N := 30) hx hb hC hH hts in_X6_touched_X6 hown F_8 rfl 21 (by decide) (hts (.fieldLink RX6 59 "LazyStateModel" "touchedHow" "[I") (by decide +kernel)) rfl dX6_touched_43 ?_
          refine lv_iload_n hx hb dX6_touched_46 rfl (lv_at hl 1 rfl) ?_
          have hg_11 : f (h 21) = some (.inl (gk G 0, 400, .inl (I_1 21))) := hM.2.1 21 (by decide) rfl
          refine m_iald hx hb hC hH hg_11 (vp_in_iff.mpr ⟨by omega, by omega⟩) dX6_touched_47 ?_
          refine lv_topi (fun x_12 ex_12 => ?_)
          have ck_ := ic_clN (rfl : k.toInt = _) (by omega)
          have tr_ := hR.trI (i := k.toNatClampNeg) (by omega)
          have tv_ : x_12 = nI ((trS σ).getD k.toNatClampNeg 0 % 2) := by rw [ex_12]; exact tr_.2
          exact m_iret (v := x_12) hx hb hr hlk hC hH (fun _ => (0, 0)) ⟨rfl, by unfold tchA; rw [if_neg (by have := kJ_0; have := kJ_1; omega), if_neg (by omega), if_neg (by omega)]; exact tv_⟩ (Nat.le_of_ble_eq_true rfl) (Nat.le_of_ble_eq_true rfl) dX6_touched_48
        · skip
          have ic_10 : (w_.toInt : Int) = 0 := ic_eq rfl kI_0 c_10
          refine lv_aload_n hx hb dX6_touched_33 rfl (lv_at hl 0 rfl) ?_
          refine m_get (ci := 6) (v := .ref (h 20)) (C := RX6) (T := TX6) (N := 30) hx hb hC hH hts in_X6_touched_X6 hown F_8 rfl 20 (by decide) (hts (.fieldLink RX6 56 "LazyStateModel" "touchedLeaf" "[I") (by decide +kernel)) rfl dX6_touched_34 ?_
          refine lv_iload_n hx hb dX6_touched_37 rfl (lv_at hl 1 rfl) ?_
          have hg_13 : f (h 20) = some (.inl (gk G 0, 400, .inl (I_1 20))) := hM.2.1 20 (by decide) rfl
          refine m_iald hx hb hC hH hg_13 (vp_in_iff.mpr ⟨by omega, by omega⟩) dX6_touched_38 ?_
          refine lv_topi (fun x_14 ex_14 => ?_)
          have ck_ := ic_clN (rfl : k.toInt = _) (by omega)
          have tr_ := hR.trI (i := k.toNatClampNeg) (by omega)
          have tv_ : x_14 = nI ((trS σ).getD k.toNatClampNeg 0 / 2) := by rw [ex_14]; exact tr_.1
          refine lv_goto (tgt := 48) hx hb dX6_touched_39 (by decide) ?_
          exact m_iret (v := x_14) hx hb hr hlk hC hH (fun _ => (0, 0)) ⟨rfl, by unfold tchA; rw [if_neg (by have := kJ_0; have := kJ_1; omega), if_neg (by omega), if_pos (by omega)]; exact tv_⟩ (Nat.le_of_ble_eq_true rfl) (Nat.le_of_ble_eq_true rfl) dX6_touched_48
      · skip
        have ic_9 : (k.toInt : Int) ≥ (((trS σ).length : Nat) : Int) := ic_nlt rfl tmI_1 c_9
        refine lv_bipush (v := (-3)) hx hb dX6_touched_24 (by decide) ?_
        refine lv_goto (tgt := 48) hx hb dX6_touched_26 (by decide) ?_
        exact m_iret (v := (-3)) hx hb hr hlk hC hH (fun _ => (0, 0)) ⟨rfl, by unfold tchA; rw [if_neg (by have := kJ_0; have := kJ_1; omega), if_pos (by have := kJ_0; have := kJ_1; omega)]⟩ (Nat.le_of_ble_eq_true rfl) (Nat.le_of_ble_eq_true rfl) dX6_touched_48
    · skip
      have ic_7 : (r_4.toInt : Int) = 0 := ic_eq rfl kI_0 c_7
      refine lv_iconst (v := (-1)) hx hb dX6_touched_14 (by decide) ?_
      exact m_iret (v := (-1)) hx hb hr hlk hC hH (fun _ => (0, 0)) ⟨rfl, by unfold tchA; rw [if_pos (by have := kJ_0; have := kJ_1; omega)]⟩ (Nat.le_of_ble_eq_true rfl) (Nat.le_of_ble_eq_true rfl) dX6_touched_15
set_option maxHeartbeats 4000000 in
set_option maxRecDepth 100000 in
theorem c_X6_written (l : Launch) (G : mG) (h : Nat → Nat) (n : Nat) (T z : Nat → Nat) (A : Nat → tA) (hg : Nat) (ver : Nat → Nat → tB) (cq : Nat → Bool) (fe : Int32) (tms : Nat → Int32) (ca : Int32) (wl : List Nat) (wh : Int32) (ac th : Nat) (sx : Int32) (σ : tS) (f : mF) (hI : FM G h n T z A hg ver cq fe tms ca wl wh ac th sx σ f) (k : Int32) : Met l yX6_written wsX6_written ({ frames := 0, cells := 0, slots := 0, locals := 0 }) (va_Pc [.ref (h 0), .int k] (mW G f)) (va_Qi (fun (r : Int32) (u : mS) => u.2 = f ∧ r = wrA wl k) (fun (u : mS) t => mW G u.2 t) (mA G)) 0 0 (mA G) := by
  refine mMet [.ref (h 0), .int k] (cc := cX6_written) (maxL := 2) (ret := (some .int)) (by decide) rfl (Nat.le_of_ble_eq_true rfl) ?_
  intro p e s m below meth c ls hx hb hr hml hts hown hlk hnm hC hH hl
  have hl : lv_has ls 2 [(0, .ref (h 0)), (1, .int k)] := hl
  have hI0_ := hI
  have hfr : frM h f f := frM.rf
  obtain ⟨I_1, J_1, hM, hR, hac_1, hth_1⟩ := hI
  have hg_1 := hR.hg40
  have n24_1 := hR.n24
  have tl_1 := len_b hR.ok.2.2.1
  have wl_1 := hR.wl192
  have hgI_1 : (nI hg).toInt = ((hg : Nat) : Int) := nI_toInt (by omega)
  have tmI_1 : (nI ((trS σ).length)).toInt = (((trS σ).length : Nat) : Int) := nI_toInt (by omega)
  have wmI_1 : (nI wl.length).toInt = ((wl.length : Nat) : Int) := nI_toInt (by omega)
  have acI_1 : (nI ac).toInt = ((ac : Nat) : Int) := nI_toInt (by omega)
  have thI_1 : (nI th).toInt = ((th : Nat) : Int) := nI_toInt (by omega)
  have nIn_1 : (nI n).toInt = ((n : Nat) : Int) := nI_toInt (by omega)
  refine lv_iload_n hx hb dX6_written_0 rfl (lv_at hl 1 rfl) ?_
  refine lv_if_ge (tgt := 8) hx hb dX6_written_1 (by decide) (fun c_2 => ?_) (fun c_2 => ?_)
  · skip
    have ic_2 : (0 : Int) ≤ k.toInt := ic_le kI_0 rfl c_2
    refine lv_iload_n hx hb dX6_written_8 rfl (lv_at hl 1 rfl) ?_
    refine lv_aload_n hx hb dX6_written_9 rfl (lv_at hl 0 rfl) ?_
    have F_3 : f (h 0) = some (.inr (6, [.int (nI n), .ref (h 1), .int (nI hg), .ref (h 3), .ref (h 4), .ref (h 5), .ref (h 6), .int fe, .ref (h 8), .ref (h 9), .ref (h 10), .ref (h 11), .ref (h 12), .ref (h 13), .ref (h 14), .ref (h 15), .int ca, .long (gfS σ), .int wh, .int (nI ((trS σ).length)), .ref (h 20), .ref (h 21), .int (nI wl.length), .ref (h 23), .ref (h 24), .int (nI ac), .ref (h 26), .ref (h 27), .int (nI th), .int sx])) := hM.1
    refine m_get (ci := 6) (v := .int (nI wl.length)) (C := RX6) (T := TX6) (N := 30) hx hb hC hH hts in_X6_written_X6 hown F_3 rfl 22 (by decide) (hts (.fieldLink RX6 196 "LazyStateModel" "writtenMany" "I") (by decide +kernel)) rfl dX6_written_10 ?_
    refine lv_icmp_lt (tgt := 21) hx hb dX6_written_13 (by decide) (fun c_4 => ?_) (fun c_4 => ?_)
    · skip
      have ic_4 : (k.toInt : Int) < ((wl.length : Nat) : Int) := ic_lt rfl wmI_1 c_4
      refine lv_aload_n hx hb dX6_written_21 rfl (lv_at hl 0 rfl) ?_
      refine m_get (ci := 6) (v := .ref (h 23)) (C := RX6) (T := TX6) (N := 30) hx hb hC hH hts in_X6_written_X6 hown F_3 rfl 23 (by decide) (hts (.fieldLink RX6 62 "LazyStateModel" "written" "[I") (by decide +kernel)) rfl dX6_written_22 ?_
      refine lv_iload_n hx hb dX6_written_25 rfl (lv_at hl 1 rfl) ?_
      have hg_5 : f (h 23) = some (.inl (gk G 0, 192, .inl (I_1 23))) := hM.2.1 23 (by decide) rfl
      refine m_iald hx hb hC hH hg_5 (vp_in_iff.mpr ⟨by omega, by omega⟩) dX6_written_26 ?_
      refine lv_topi (fun x_6 ex_6 => ?_)
      have ck_ := ic_clN (rfl : k.toInt = _) (by omega)
      have tv_ : x_6 = nI (wl.getD k.toNatClampNeg 0) := by rw [ex_6]; exact hR.wlI (by omega)
      exact m_iret (v := x_6) hx hb hr hlk hC hH (fun _ => (0, 0)) ⟨rfl, by unfold wrA; rw [if_neg (by omega), if_neg (by omega)]; exact tv_⟩ (Nat.le_of_ble_eq_true rfl) (Nat.le_of_ble_eq_true rfl) dX6_written_27
    · skip
      have ic_4 : (k.toInt : Int) ≥ ((wl.length : Nat) : Int) := ic_nlt rfl wmI_1 c_4
      refine lv_bipush (v := (-3)) hx hb dX6_written_16 (by decide) ?_
      refine lv_goto (tgt := 27) hx hb dX6_written_18 (by decide) ?_
      exact m_iret (v := (-3)) hx hb hr hlk hC hH (fun _ => (0, 0)) ⟨rfl, by unfold wrA; rw [if_neg (by omega), if_pos (by omega)]⟩ (Nat.le_of_ble_eq_true rfl) (Nat.le_of_ble_eq_true rfl) dX6_written_27
  · skip
    have ic_2 : (0 : Int) > k.toInt := ic_nle kI_0 rfl c_2
    refine lv_iconst (v := (-1)) hx hb dX6_written_4 (by decide) ?_
    refine lv_goto (tgt := 27) hx hb dX6_written_5 (by decide) ?_
    exact m_iret (v := (-1)) hx hb hr hlk hC hH (fun _ => (0, 0)) ⟨rfl, by unfold wrA; rw [if_pos (by omega)]⟩ (Nat.le_of_ble_eq_true rfl) (Nat.le_of_ble_eq_true rfl) dX6_written_27
set_option maxHeartbeats 4000000 in
set_option maxRecDepth 100000 in
theorem c_X6_loaded (l : Launch) (G : mG) (h : Nat → Nat) (n : Nat) (T z : Nat → Nat) (A : Nat → tA) (hg : Nat) (ver : Nat → Nat → tB) (cq : Nat → Bool) (fe : Int32) (tms : Nat → Int32) (ca : Int32) (wl : List Nat) (wh : Int32) (ac th : Nat) (sx : Int32) (σ : tS) (f : mF) (hI : FM G h n T z A hg ver cq fe tms ca wl wh ac th sx σ f) (o : Int32) : Met l yX6_loaded wsX6_loaded ({ frames := 2, cells := 0, slots := 0, locals := 46 }) (va_Pc [.ref (h 0), .int o] (mW G f)) (va_Qi (fun (r : Int32) (u : mS) => u.2 = f ∧ r = obA n (ldS σ) o) (fun (u : mS) t => mW G u.2 t) (mA G)) 0 0 (mA G) := by
  refine mMet [.ref (h 0), .int o] (cc := cX6_loaded) (maxL := 2) (ret := (some .int)) (by decide) rfl (Nat.le_of_ble_eq_true rfl) ?_
  intro p e s m below meth c ls hx hb hr hml hts hown hlk hnm hC hH hl
  have hl : lv_has ls 2 [(0, .ref (h 0)), (1, .int o)] := hl
  have hI0_ := hI
  have hfr : frM h f f := frM.rf
  obtain ⟨I_1, J_1, hM, hR, hac_1, hth_1⟩ := hI
  have hg_1 := hR.hg40
  have n24_1 := hR.n24
  have tl_1 := len_b hR.ok.2.2.1
  have wl_1 := hR.wl192
  have hgI_1 : (nI hg).toInt = ((hg : Nat) : Int) := nI_toInt (by omega)
  have tmI_1 : (nI ((trS σ).length)).toInt = (((trS σ).length : Nat) : Int) := nI_toInt (by omega)
  have wmI_1 : (nI wl.length).toInt = ((wl.length : Nat) : Int) := nI_toInt (by omega)
  have acI_1 : (nI ac).toInt = ((ac : Nat) : Int) := nI_toInt (by omega)
  have thI_1 : (nI th).toInt = ((th : Nat) : Int) := nI_toInt (by omega)
  have nIn_1 : (nI n).toInt = ((n : Nat) : Int) := nI_toInt (by omega)
  refine lv_aload_n hx hb dX6_loaded_0 rfl (lv_at hl 0 rfl) ?_
  refine lv_iload_n hx hb dX6_loaded_1 rfl (lv_at hl 1 rfl) ?_
  have F_2 : f (h 0) = some (.inr (6, [.int (nI n), .ref (h 1), .int (nI hg), .ref (h 3), .ref (h 4), .ref (h 5), .ref (h 6), .int fe, .ref (h 8), .ref (h 9), .ref (h 10), .ref (h 11), .ref (h 12), .ref (h 13), .ref (h 14), .ref (h 15), .int ca, .long (gfS σ), .int wh, .int (nI ((trS σ).length)), .ref (h 20), .ref (h 21), .int (nI wl.length), .ref (h 23), .ref (h 24), .int (nI ac), .ref (h 26), .ref (h 27), .int (nI th), .int sx])) := hM.1
  have hI : FM G h n T z A hg ver cq fe tms ca wl wh ac th sx σ f := ⟨_, _, hM, hR, hac_1, hth_1⟩
  refine m_goi hH (va_runV (As := [.int o]) (rest := []) ⟨hx, hb, hml, hown, hts⟩ (c_X6_isObject l G h n T z A hg ver cq fe tms ca wl wh ac th sx σ f hI o) (cwV 1 hts gX6_loaded_X6_isObject rfl rfl rfl (by decide +kernel) ⟨Nat.le_of_ble_eq_true rfl, Nat.le_of_ble_eq_true rfl⟩) (m_preV (ci := 6) hC hH F_2 rfl) rfl rfl hl.1 rfl (lv_room (Nat.le_of_ble_eq_true rfl)) dX6_loaded_2 ⟨Nat.le_of_ble_eq_true rfl, Nat.le_of_ble_eq_true rfl⟩) (fun r_3 rho_5 f_4 H locs hw hH => ?_)
  obtain ⟨hu, hr_3⟩ := hw
  have hu : f_4 = f := hu
  rw [hu] at hH
  try dsimp only at hr_3
  refine lv_if_ne (tgt := 12) hx hb dX6_loaded_5 (by decide) (fun c_6 => ?_) (fun c_6 => ?_)
  · skip
    have ic_6 : (r_3.toInt : Int) ≠ 0 := ic_ne rfl kI_0 c_6
    refine lv_aload_n hx hb dX6_loaded_12 rfl (lv_at hl 0 rfl) ?_
    refine m_get (ci := 6) (v := .ref (h 24)) (C := RX6) (T := TX6) (N := 30) hx hb hC hH hts in_X6_loaded_X6 hown F_2 rfl 24 (by decide) (hts (.fieldLink RX6 65 "LazyStateModel" "isLoaded" "[Z") (by decide +kernel)) rfl dX6_loaded_13 ?_
    refine lv_iload_n hx hb dX6_loaded_16 rfl (lv_at hl 1 rfl) ?_
    have hg_7 : f (h 24) = some (.inl (gk G 2, 24, .inl (I_1 24))) := hM.2.1 24 (by decide) rfl
    refine m_zald hx hb hC hH hg_7 (vp_in_iff.mpr ⟨by omega, by omega⟩) dX6_loaded_17 ?_
    refine lv_topi (fun x_8 ex_8 => ?_)
    have co_ := ic_clN (rfl : o.toInt = _) (by omega)
    have bv_ : x_8 = b2i (ldS σ o.toNatClampNeg) := by rw [ex_8]; exact hR.ldI (by omega)
    refine lv_if_eq (tgt := 25) hx hb dX6_loaded_18 (by decide) (fun c_9 => ?_) (fun c_9 => ?_)
    · skip
      have ic_9 : (x_8.toInt : Int) = 0 := ic_eq rfl kI_0 c_9
      have bb_ : ldS σ o.toNatClampNeg = false := b2i_0 (by rw [← bv_]; exact ic_9)
      refine lv_iconst (v := 0) hx hb dX6_loaded_25 (by decide) ?_
      exact m_iret (v := 0) hx hb hr hlk hC hH (fun _ => (0, 0)) ⟨rfl, by unfold obA; rw [if_pos (by omega), bb_]; rfl⟩ (Nat.le_of_ble_eq_true rfl) (Nat.le_of_ble_eq_true rfl) dX6_loaded_26
    · skip
      have ic_9 : (x_8.toInt : Int) ≠ 0 := ic_ne rfl kI_0 c_9
      have bb_ : ldS σ o.toNatClampNeg = true := b2i_ne (by rw [← bv_]; exact ic_9)
      refine lv_iconst (v := 1) hx hb dX6_loaded_21 (by decide) ?_
      refine lv_goto (tgt := 26) hx hb dX6_loaded_22 (by decide) ?_
      exact m_iret (v := 1) hx hb hr hlk hC hH (fun _ => (0, 0)) ⟨rfl, by unfold obA; rw [if_pos (by omega), bb_]; rfl⟩ (Nat.le_of_ble_eq_true rfl) (Nat.le_of_ble_eq_true rfl) dX6_loaded_26
  · skip
    have ic_6 : (r_3.toInt : Int) = 0 := ic_eq rfl kI_0 c_6
    refine lv_iconst (v := (-1)) hx hb dX6_loaded_8 (by decide) ?_
    refine lv_goto (tgt := 26) hx hb dX6_loaded_9 (by decide) ?_
    exact m_iret (v := (-1)) hx hb hr hlk hC hH (fun _ => (0, 0)) ⟨rfl, by unfold obA; rw [if_neg (by omega)]⟩ (Nat.le_of_ble_eq_true rfl) (Nat.le_of_ble_eq_true rfl) dX6_loaded_26
set_option maxHeartbeats 4000000 in
set_option maxRecDepth 100000 in
theorem c_X6_cached (l : Launch) (G : mG) (h : Nat → Nat) (n : Nat) (T z : Nat → Nat) (A : Nat → tA) (hg : Nat) (ver : Nat → Nat → tB) (cq : Nat → Bool) (fe : Int32) (tms : Nat → Int32) (ca : Int32) (wl : List Nat) (wh : Int32) (ac th : Nat) (sx : Int32) (σ : tS) (f : mF) (hI : FM G h n T z A hg ver cq fe tms ca wl wh ac th sx σ f) (o : Int32) : Met l yX6_cached wsX6_cached ({ frames := 2, cells := 0, slots := 0, locals := 46 }) (va_Pc [.ref (h 0), .int o] (mW G f)) (va_Qi (fun (r : Int32) (u : mS) => u.2 = f ∧ r = obA n cq o) (fun (u : mS) t => mW G u.2 t) (mA G)) 0 0 (mA G) := by
  refine mMet [.ref (h 0), .int o] (cc := cX6_cached) (maxL := 2) (ret := (some .int)) (by decide) rfl (Nat.le_of_ble_eq_true rfl) ?_
  intro p e s m below meth c ls hx hb hr hml hts hown hlk hnm hC hH hl
  have hl : lv_has ls 2 [(0, .ref (h 0)), (1, .int o)] := hl
  have hI0_ := hI
  have hfr : frM h f f := frM.rf
  obtain ⟨I_1, J_1, hM, hR, hac_1, hth_1⟩ := hI
  have hg_1 := hR.hg40
  have n24_1 := hR.n24
  have tl_1 := len_b hR.ok.2.2.1
  have wl_1 := hR.wl192
  have hgI_1 : (nI hg).toInt = ((hg : Nat) : Int) := nI_toInt (by omega)
  have tmI_1 : (nI ((trS σ).length)).toInt = (((trS σ).length : Nat) : Int) := nI_toInt (by omega)
  have wmI_1 : (nI wl.length).toInt = ((wl.length : Nat) : Int) := nI_toInt (by omega)
  have acI_1 : (nI ac).toInt = ((ac : Nat) : Int) := nI_toInt (by omega)
  have thI_1 : (nI th).toInt = ((th : Nat) : Int) := nI_toInt (by omega)
  have nIn_1 : (nI n).toInt = ((n : Nat) : Int) := nI_toInt (by omega)
  refine lv_aload_n hx hb dX6_cached_0 rfl (lv_at hl 0 rfl) ?_
  refine lv_iload_n hx hb dX6_cached_1 rfl (lv_at hl 1 rfl) ?_
  have F_2 : f (h 0) = some (.inr (6, [.int (nI n), .ref (h 1), .int (nI hg), .ref (h 3), .ref (h 4), .ref (h 5), .ref (h 6), .int fe, .ref (h 8), .ref (h 9), .ref (h 10), .ref (h 11), .ref (h 12), .ref (h 13), .ref (h 14), .ref (h 15), .int ca, .long (gfS σ), .int wh, .int (nI ((trS σ).length)), .ref (h 20), .ref (h 21), .int (nI wl.length), .ref (h 23), .ref (h 24), .int (nI ac), .ref (h 26), .ref (h 27), .int (nI th), .int sx])) := hM.1
  have hI : FM G h n T z A hg ver cq fe tms ca wl wh ac th sx σ f := ⟨_, _, hM, hR, hac_1, hth_1⟩
  refine m_goi hH (va_runV (As := [.int o]) (rest := []) ⟨hx, hb, hml, hown, hts⟩ (c_X6_isObject l G h n T z A hg ver cq fe tms ca wl wh ac th sx σ f hI o) (cwV 1 hts gX6_cached_X6_isObject rfl rfl rfl (by decide +kernel) ⟨Nat.le_of_ble_eq_true rfl, Nat.le_of_ble_eq_true rfl⟩) (m_preV (ci := 6) hC hH F_2 rfl) rfl rfl hl.1 rfl (lv_room (Nat.le_of_ble_eq_true rfl)) dX6_cached_2 ⟨Nat.le_of_ble_eq_true rfl, Nat.le_of_ble_eq_true rfl⟩) (fun r_3 rho_5 f_4 H locs hw hH => ?_)
  obtain ⟨hu, hr_3⟩ := hw
  have hu : f_4 = f := hu
  rw [hu] at hH
  try dsimp only at hr_3
  refine lv_if_ne (tgt := 12) hx hb dX6_cached_5 (by decide) (fun c_6 => ?_) (fun c_6 => ?_)
  · skip
    have ic_6 : (r_3.toInt : Int) ≠ 0 := ic_ne rfl kI_0 c_6
    refine lv_aload_n hx hb dX6_cached_12 rfl (lv_at hl 0 rfl) ?_
    refine m_get (ci := 6) (v := .ref (h 6)) (C := RX6) (T := TX6) (N := 30) hx hb hC hH hts in_X6_cached_X6 hown F_2 rfl 6 (by decide) (hts (.fieldLink RX6 24 "LazyStateModel" "isCached" "[Z") (by decide +kernel)) rfl dX6_cached_13 ?_
    refine lv_iload_n hx hb dX6_cached_16 rfl (lv_at hl 1 rfl) ?_
    have hg_7 : f (h 6) = some (.inl (gk G 2, 24, .inl (I_1 6))) := hM.2.1 6 (by decide) rfl
    refine m_zald hx hb hC hH hg_7 (vp_in_iff.mpr ⟨by omega, by omega⟩) dX6_cached_17 ?_
    refine lv_topi (fun x_8 ex_8 => ?_)
    have co_ := ic_clN (rfl : o.toInt = _) (by omega)
    have bv_ : x_8 = b2i (cq o.toNatClampNeg) := by rw [ex_8]; exact hR.cqI (by omega)
    refine lv_if_eq (tgt := 25) hx hb dX6_cached_18 (by decide) (fun c_9 => ?_) (fun c_9 => ?_)
    · skip
      have ic_9 : (x_8.toInt : Int) = 0 := ic_eq rfl kI_0 c_9
      have bb_ : cq o.toNatClampNeg = false := b2i_0 (by rw [← bv_]; exact ic_9)
      refine lv_iconst (v := 0) hx hb dX6_cached_25 (by decide) ?_
      exact m_iret (v := 0) hx hb hr hlk hC hH (fun _ => (0, 0)) ⟨rfl, by unfold obA; rw [if_pos (by omega), bb_]; rfl⟩ (Nat.le_of_ble_eq_true rfl) (Nat.le_of_ble_eq_true rfl) dX6_cached_26
    · skip
      have ic_9 : (x_8.toInt : Int) ≠ 0 := ic_ne rfl kI_0 c_9
      have bb_ : cq o.toNatClampNeg = true := b2i_ne (by rw [← bv_]; exact ic_9)
      refine lv_iconst (v := 1) hx hb dX6_cached_21 (by decide) ?_
      refine lv_goto (tgt := 26) hx hb dX6_cached_22 (by decide) ?_
      exact m_iret (v := 1) hx hb hr hlk hC hH (fun _ => (0, 0)) ⟨rfl, by unfold obA; rw [if_pos (by omega), bb_]; rfl⟩ (Nat.le_of_ble_eq_true rfl) (Nat.le_of_ble_eq_true rfl) dX6_cached_26
  · skip
    have ic_6 : (r_3.toInt : Int) = 0 := ic_eq rfl kI_0 c_6
    refine lv_iconst (v := (-1)) hx hb dX6_cached_8 (by decide) ?_
    refine lv_goto (tgt := 26) hx hb dX6_cached_9 (by decide) ?_
    exact m_iret (v := (-1)) hx hb hr hlk hC hH (fun _ => (0, 0)) ⟨rfl, by unfold obA; rw [if_neg (by omega)]⟩ (Nat.le_of_ble_eq_true rfl) (Nat.le_of_ble_eq_true rfl) dX6_cached_26
set_option maxHeartbeats 4000000 in
set_option maxRecDepth 100000 in
theorem c_X6_hint (l : Launch) (G : mG) (h : Nat → Nat) (n : Nat) (T z : Nat → Nat) (A : Nat → tA) (hg : Nat) (ver : Nat → Nat → tB) (cq : Nat → Bool) (fe : Int32) (tms : Nat → Int32) (ca : Int32) (wl : List Nat) (wh : Int32) (ac th : Nat) (sx : Int32) (σ : tS) (f : mF) (hI : FM G h n T z A hg ver cq fe tms ca wl wh ac th sx σ f) (o : Int32) : Met l yX6_hint wsX6_hint ({ frames := 2, cells := 0, slots := 0, locals := 46 }) (va_Pc [.ref (h 0), .int o] (mW G f)) (va_Qi (fun (r : Int32) (u : mS) => frM h f u.2 ∧ r = htA n cq o ∧ ((¬ (0 ≤ o.toInt ∧ o.toInt < n) ∧ FM G h n T z A hg ver cq fe tms ca wl wh ac th sx σ u.2) ∨ ((0 ≤ o.toInt ∧ o.toInt < n) ∧ FM G h n T z A hg ver (va_up cq o.toNatClampNeg true) (fe + htA n cq o) tms ca wl wh ac th sx σ u.2))) (fun (u : mS) t => mW G u.2 t) (mA G)) 0 0 (mA G) := by
  refine mMet [.ref (h 0), .int o] (cc := cX6_hint) (maxL := 3) (ret := (some .int)) (by decide) rfl (Nat.le_of_ble_eq_true rfl) ?_
  intro p e s m below meth c ls hx hb hr hml hts hown hlk hnm hC hH hl
  have hl : lv_has ls 3 [(0, .ref (h 0)), (1, .int o)] := hl
  have hI0_ := hI
  have hfr : frM h f f := frM.rf
  obtain ⟨I_1, J_1, hM, hR, hac_1, hth_1⟩ := hI
  have hg_1 := hR.hg40
  have n24_1 := hR.n24
  have tl_1 := len_b hR.ok.2.2.1
  have wl_1 := hR.wl192
  have hgI_1 : (nI hg).toInt = ((hg : Nat) : Int) := nI_toInt (by omega)
  have tmI_1 : (nI ((trS σ).length)).toInt = (((trS σ).length : Nat) : Int) := nI_toInt (by omega)
  have wmI_1 : (nI wl.length).toInt = ((wl.length : Nat) : Int) := nI_toInt (by omega)
  have acI_1 : (nI ac).toInt = ((ac : Nat) : Int) := nI_toInt (by omega)
  have thI_1 : (nI th).toInt = ((th : Nat) : Int) := nI_toInt (by omega)
  have nIn_1 : (nI n).toInt = ((n : Nat) : Int) := nI_toInt (by omega)
  refine lv_aload_n hx hb dX6_hint_0 rfl (lv_at hl 0 rfl) ?_
  refine lv_iload_n hx hb dX6_hint_1 rfl (lv_at hl 1 rfl) ?_
  have F_2 : f (h 0) = some (.inr (6, [.int (nI n), .ref (h 1), .int (nI hg), .ref (h 3), .ref (h 4), .ref (h 5), .ref (h 6), .int fe, .ref (h 8), .ref (h 9), .ref (h 10), .ref (h 11), .ref (h 12), .ref (h 13), .ref (h 14), .ref (h 15), .int ca, .long (gfS σ), .int wh, .int (nI ((trS σ).length)), .ref (h 20), .ref (h 21), .int (nI wl.length), .ref (h 23), .ref (h 24), .int (nI ac), .ref (h 26), .ref (h 27), .int (nI th), .int sx])) := hM.1
  have hI : FM G h n T z A hg ver cq fe tms ca wl wh ac th sx σ f := ⟨_, _, hM, hR, hac_1, hth_1⟩
  refine m_goi hH (va_runV (As := [.int o]) (rest := []) ⟨hx, hb, hml, hown, hts⟩ (c_X6_isObject l G h n T z A hg ver cq fe tms ca wl wh ac th sx σ f hI o) (cwV 1 hts gX6_hint_X6_isObject rfl rfl rfl (by decide +kernel) ⟨Nat.le_of_ble_eq_true rfl, Nat.le_of_ble_eq_true rfl⟩) (m_preV (ci := 6) hC hH F_2 rfl) rfl rfl hl.1 rfl (lv_room (Nat.le_of_ble_eq_true rfl)) dX6_hint_2 ⟨Nat.le_of_ble_eq_true rfl, Nat.le_of_ble_eq_true rfl⟩) (fun r_3 rho_5 f_4 H locs hw hH => ?_)
  obtain ⟨hu, hr_3⟩ := hw
  have hu : f_4 = f := hu
  rw [hu] at hH
  try dsimp only at hr_3
  refine lv_if_ne (tgt := 10) hx hb dX6_hint_5 (by decide) (fun c_6 => ?_) (fun c_6 => ?_)
  · skip
    have ic_6 : (r_3.toInt : Int) ≠ 0 := ic_ne rfl kI_0 c_6
    refine lv_aload_n hx hb dX6_hint_10 rfl (lv_at hl 0 rfl) ?_
    refine m_get (ci := 6) (v := .ref (h 6)) (C := RX6) (T := TX6) (N := 30) hx hb hC hH hts in_X6_hint_X6 hown F_2 rfl 6 (by decide) (hts (.fieldLink RX6 24 "LazyStateModel" "isCached" "[Z") (by decide +kernel)) rfl dX6_hint_11 ?_
    refine lv_iload_n hx hb dX6_hint_14 rfl (lv_at hl 1 rfl) ?_
    have hg_7 : f (h 6) = some (.inl (gk G 2, 24, .inl (I_1 6))) := hM.2.1 6 (by decide) rfl
    refine m_zald hx hb hC hH hg_7 (vp_in_iff.mpr ⟨by omega, by omega⟩) dX6_hint_15 ?_
    refine lv_topi (fun x_8 ex_8 => ?_)
    have co_ := ic_clN (rfl : o.toInt = _) (by omega)
    have bv_ : x_8 = b2i (cq o.toNatClampNeg) := by rw [ex_8]; exact hR.cqI (by omega)
    refine lv_if_eq (tgt := 23) hx hb dX6_hint_16 (by decide) (fun c_9 => ?_) (fun c_9 => ?_)
    · skip
      have ic_9 : (x_8.toInt : Int) = 0 := ic_eq rfl kI_0 c_9
      have bb_ : cq o.toNatClampNeg = false := b2i_0 (by rw [← bv_]; exact ic_9)
      refine lv_iconst (v := 1) hx hb dX6_hint_23 (by decide) ?_
      refine lv_istore_n (lv' := [(2, .int 1), (0, .ref (h 0)), (1, .int o)]) hx hb dX6_hint_24 rfl hl (by decide) rfl (fun ls hl => ?_)
      refine lv_aload_n hx hb dX6_hint_25 rfl (lv_at hl 1 rfl) ?_
      refine lv_dup hx hb dX6_hint_26 rfl ?_
      refine m_get (ci := 6) (v := .int fe) (C := RX6) (T := TX6) (N := 30) hx hb hC hH hts in_X6_hint_X6 hown F_2 rfl 7 (by decide) (hts (.fieldLink RX6 149 "LazyStateModel" "fetches" "I") (by decide +kernel)) rfl dX6_hint_27 ?_
      refine lv_iload_n hx hb dX6_hint_30 rfl (lv_at hl 0 rfl) ?_
      refine lv_iadd hx hb dX6_hint_31 ?_
      refine lv_topi (fun x_10 ex_10 => ?_)
      refine m_put (ci := 6) (v := .int x_10) (C := RX6) (T := TX6) (N := 30) hx hb hC hH hts in_X6_hint_X6 tyX6 tyX6_ok nmX6 hown F_2 rfl 7 (by decide) (hts (.fieldLink RX6 149 "LazyStateModel" "fetches" "I") (by decide +kernel)) rfl rfl rfl (Nat.le_of_ble_eq_true rfl) dX6_hint_32 (fun H locs hH => ?_)
      have hH : mH G s (va_up f (h 0) (some (.inr (6, [.int (nI n), .ref (h 1), .int (nI hg), .ref (h 3), .ref (h 4), .ref (h 5), .ref (h 6), .int x_10, .ref (h 8), .ref (h 9), .ref (h 10), .ref (h 11), .ref (h 12), .ref (h 13), .ref (h 14), .ref (h 15), .int ca, .long (gfS σ), .int wh, .int (nI ((trS σ).length)), .ref (h 20), .ref (h 21), .int (nI wl.length), .ref (h 23), .ref (h 24), .int (nI ac), .ref (h 26), .ref (h 27), .int (nI th), .int sx])))) H locs := hH
      obtain ⟨f_11, ef_11⟩ : ∃ zz_ : mF, zz_ = va_up f (h 0) (some (.inr (6, [.int (nI n), .ref (h 1), .int (nI hg), .ref (h 3), .ref (h 4), .ref (h 5), .ref (h 6), .int x_10, .ref (h 8), .ref (h 9), .ref (h 10), .ref (h 11), .ref (h 12), .ref (h 13), .ref (h 14), .ref (h 15), .int ca, .long (gfS σ), .int wh, .int (nI ((trS σ).length)), .ref (h 20), .ref (h 21), .int (nI wl.length), .ref (h 23), .ref (h 24), .int (nI ac), .ref (h 26), .ref (h 27), .int (nI th), .int sx]))) := ⟨_, rfl⟩
      rw [← ef_11] at hH
      have hM : MEM G h n (nI hg, x_10, ca, (gfS σ), wh, nI ((trS σ).length), nI wl.length, nI ac, nI th, sx) I_1 J_1 f_11 := hM.set0 ef_11
      have hfr := hfr.up 0 (by decide) ef_11
      rw [ex_10] at hM
      have hI : FM G h n T z A hg ver cq (fe + 1) tms ca wl wh ac th sx σ f_11 := ⟨_, _, hM, hR, hac_1, hth_1⟩
      obtain ⟨I_12, J_12, hM, hR, hac_12, hth_12⟩ := hI
      have hg_12 := hR.hg40
      have n24_12 := hR.n24
      have tl_12 := len_b hR.ok.2.2.1
      have wl_12 := hR.wl192
      have hgI_12 : (nI hg).toInt = ((hg : Nat) : Int) := nI_toInt (by omega)
      have tmI_12 : (nI ((trS σ).length)).toInt = (((trS σ).length : Nat) : Int) := nI_toInt (by omega)
      have wmI_12 : (nI wl.length).toInt = ((wl.length : Nat) : Int) := nI_toInt (by omega)
      have acI_12 : (nI ac).toInt = ((ac : Nat) : Int) := nI_toInt (by omega)
      have thI_12 : (nI th).toInt = ((th : Nat) : Int) := nI_toInt (by omega)
      have nIn_12 : (nI n).toInt = ((n : Nat) : Int) := nI_toInt (by omega)
      refine lv_aload_n hx hb dX6_hint_35 rfl (lv_at hl 1 rfl) ?_
      have F_13 : f_11 (h 0) = some (.inr (6, [.int (nI n), .ref (h 1), .int (nI hg), .ref (h 3), .ref (h 4), .ref (h 5), .ref (h 6), .int (fe + 1), .ref (h 8), .ref (h 9), .ref (h 10), .ref (h 11), .ref (h 12), .ref (h 13), .ref (h 14), .ref (h 15), .int ca, .long (gfS σ), .int wh, .int (nI ((trS σ).length)), .ref (h 20), .ref (h 21), .int (nI wl.length), .ref (h 23), .ref (h 24), .int (nI ac), .ref (h 26), .ref (h 27), .int (nI th), .int sx])) := hM.1
      refine m_get (ci := 6) (v := .ref (h 6)) (C := RX6) (T := TX6) (N := 30) hx hb hC hH hts in_X6_hint_X6 hown F_13 rfl 6 (by decide) (hts (.fieldLink RX6 24 "LazyStateModel" "isCached" "[Z") (by decide +kernel)) rfl dX6_hint_36 ?_
      refine lv_iload_n hx hb dX6_hint_39 rfl (lv_at hl 2 rfl) ?_
      refine lv_iconst (v := 1) hx hb dX6_hint_40 (by decide) ?_
      have hg_14 : f_11 (h 6) = some (.inl (gk G 2, 24, .inl (I_12 6))) := hM.2.1 6 (by decide) rfl
      refine m_zast hx hb hC hH hg_14 (vp_in_iff.mpr ⟨by omega, by omega⟩) dX6_hint_41 (fun H locs hH => ?_)
      obtain ⟨f_15, ef_15⟩ : ∃ zz_ : mF, zz_ = va_up f_11 (h 6) (some (.inl (gk G 2, 24, .inl (upd (I_12 6) o.toNatClampNeg (vp_nar .boolean 1))))) := ⟨_, rfl⟩
      rw [← ef_15] at hH
      have hM : MEM G h n (nI hg, (fe + 1), ca, (gfS σ), wh, nI ((trS σ).length), nI wl.length, nI ac, nI th, sx) (va_up I_12 6 (upd (I_12 6) o.toNatClampNeg (vp_nar .boolean 1))) J_12 f_15 := hM.setI 6 (by decide) rfl ef_15
      have hfr := hfr.up 6 (by decide) ef_15
      rw [show vp_nar .boolean (1 : Int32) = 1 from by decide] at hM
      have hR := hR.hint (o := o.toNatClampNeg) (by omega)
      have hI : FM G h n T z A hg ver (va_up cq o.toNatClampNeg true) (fe + 1) tms ca wl wh ac th sx σ f_15 := ⟨_, _, hM, hR, hac_12, hth_12⟩
      obtain ⟨I_16, J_16, hM, hR, hac_16, hth_16⟩ := hI
      have hg_16 := hR.hg40
      have n24_16 := hR.n24
      have tl_16 := len_b hR.ok.2.2.1
      have wl_16 := hR.wl192
      have hgI_16 : (nI hg).toInt = ((hg : Nat) : Int) := nI_toInt (by omega)
      have tmI_16 : (nI ((trS σ).length)).toInt = (((trS σ).length : Nat) : Int) := nI_toInt (by omega)
      have wmI_16 : (nI wl.length).toInt = ((wl.length : Nat) : Int) := nI_toInt (by omega)
      have acI_16 : (nI ac).toInt = ((ac : Nat) : Int) := nI_toInt (by omega)
      have thI_16 : (nI th).toInt = ((th : Nat) : Int) := nI_toInt (by omega)
      have nIn_16 : (nI n).toInt = ((n : Nat) : Int) := nI_toInt (by omega)
      refine lv_iload_n hx hb dX6_hint_42 rfl (lv_at hl 0 rfl) ?_
      exact m_iret (v := 1) hx hb hr hlk hC hH (fun _ => (0, 0)) (by have hv_ : htA n cq o = 1 := (by unfold htA; rw [if_pos (by omega), bb_]; rfl); rw [hv_]; exact ⟨hfr, rfl, Or.inr ⟨by omega, ⟨_, _, hM, hR, hac_16, hth_16⟩⟩⟩) (Nat.le_of_ble_eq_true rfl) (Nat.le_of_ble_eq_true rfl) dX6_hint_43
    · skip
      have ic_9 : (x_8.toInt : Int) ≠ 0 := ic_ne rfl kI_0 c_9
      have bb_ : cq o.toNatClampNeg = true := b2i_ne (by rw [← bv_]; exact ic_9)
      refine lv_iconst (v := 0) hx hb dX6_hint_19 (by decide) ?_
      refine lv_goto (tgt := 24) hx hb dX6_hint_20 (by decide) ?_
      refine lv_istore_n (lv' := [(2, .int 0), (0, .ref (h 0)), (1, .int o)]) hx hb dX6_hint_24 rfl hl (by decide) rfl (fun ls hl => ?_)
      refine lv_aload_n hx hb dX6_hint_25 rfl (lv_at hl 1 rfl) ?_
      refine lv_dup hx hb dX6_hint_26 rfl ?_
      refine m_get (ci := 6) (v := .int fe) (C := RX6) (T := TX6) (N := 30) hx hb hC hH hts in_X6_hint_X6 hown F_2 rfl 7 (by decide) (hts (.fieldLink RX6 149 "LazyStateModel" "fetches" "I") (by decide +kernel)) rfl dX6_hint_27 ?_
      refine lv_iload_n hx hb dX6_hint_30 rfl (lv_at hl 0 rfl) ?_
      refine lv_iadd hx hb dX6_hint_31 ?_
      refine lv_topi (fun x_17 ex_17 => ?_)
      refine m_put (ci := 6) (v := .int x_17) (C := RX6) (T := TX6) (N := 30) hx hb hC hH hts in_X6_hint_X6 tyX6 tyX6_ok nmX6 hown F_2 rfl 7 (by decide) (hts (.fieldLink RX6 149 "LazyStateModel" "fetches" "I") (by decide +kernel)) rfl rfl rfl (Nat.le_of_ble_eq_true rfl) dX6_hint_32 (fun H locs hH => ?_)
      have hH : mH G s (va_up f (h 0) (some (.inr (6, [.int (nI n), .ref (h 1), .int (nI hg), .ref (h 3), .ref (h 4), .ref (h 5), .ref (h 6), .int x_17, .ref (h 8), .ref (h 9), .ref (h 10), .ref (h 11), .ref (h 12), .ref (h 13), .ref (h 14), .ref (h 15), .int ca, .long (gfS σ), .int wh, .int (nI ((trS σ).length)), .ref (h 20), .ref (h 21), .int (nI wl.length), .ref (h 23), .ref (h 24), .int (nI ac), .ref (h 26), .ref (h 27), .int (nI th), .int sx])))) H locs := hH
      obtain ⟨f_18, ef_18⟩ : ∃ zz_ : mF, zz_ = va_up f (h 0) (some (.inr (6, [.int (nI n), .ref (h 1), .int (nI hg), .ref (h 3), .ref (h 4), .ref (h 5), .ref (h 6), .int x_17, .ref (h 8), .ref (h 9), .ref (h 10), .ref (h 11), .ref (h 12), .ref (h 13), .ref (h 14), .ref (h 15), .int ca, .long (gfS σ), .int wh, .int (nI ((trS σ).length)), .ref (h 20), .ref (h 21), .int (nI wl.length), .ref (h 23), .ref (h 24), .int (nI ac), .ref (h 26), .ref (h 27), .int (nI th), .int sx]))) := ⟨_, rfl⟩
      rw [← ef_18] at hH
      have hM : MEM G h n (nI hg, x_17, ca, (gfS σ), wh, nI ((trS σ).length), nI wl.length, nI ac, nI th, sx) I_1 J_1 f_18 := hM.set0 ef_18
      have hfr := hfr.up 0 (by decide) ef_18
      rw [ex_17] at hM
      have hI : FM G h n T z A hg ver cq (fe + 0) tms ca wl wh ac th sx σ f_18 := ⟨_, _, hM, hR, hac_1, hth_1⟩
      obtain ⟨I_19, J_19, hM, hR, hac_19, hth_19⟩ := hI
      have hg_19 := hR.hg40
      have n24_19 := hR.n24
      have tl_19 := len_b hR.ok.2.2.1
      have wl_19 := hR.wl192
      have hgI_19 : (nI hg).toInt = ((hg : Nat) : Int) := nI_toInt (by omega)
      have tmI_19 : (nI ((trS σ).length)).toInt = (((trS σ).length : Nat) : Int) := nI_toInt (by omega)
      have wmI_19 : (nI wl.length).toInt = ((wl.length : Nat) : Int) := nI_toInt (by omega)
      have acI_19 : (nI ac).toInt = ((ac : Nat) : Int) := nI_toInt (by omega)
      have thI_19 : (nI th).toInt = ((th : Nat) : Int) := nI_toInt (by omega)
      have nIn_19 : (nI n).toInt = ((n : Nat) : Int) := nI_toInt (by omega)
      refine lv_aload_n hx hb dX6_hint_35 rfl (lv_at hl 1 rfl) ?_
      have F_20 : f_18 (h 0) = some (.inr (6, [.int (nI n), .ref (h 1), .int (nI hg), .ref (h 3), .ref (h 4), .ref (h 5), .ref (h 6), .int (fe + 0), .ref (h 8), .ref (h 9), .ref (h 10), .ref (h 11), .ref (h 12), .ref (h 13), .ref (h 14), .ref (h 15), .int ca, .long (gfS σ), .int wh, .int (nI ((trS σ).length)), .ref (h 20), .ref (h 21), .int (nI wl.length), .ref (h 23), .ref (h 24), .int (nI ac), .ref (h 26), .ref (h 27), .int (nI th), .int sx])) := hM.1
      refine m_get (ci := 6) (v := .ref (h 6)) (C := RX6) (T := TX6) (N := 30) hx hb hC hH hts in_X6_hint_X6 hown F_20 rfl 6 (by decide) (hts (.fieldLink RX6 24 "LazyStateModel" "isCached" "[Z") (by decide +kernel)) rfl dX6_hint_36 ?_
      refine lv_iload_n hx hb dX6_hint_39 rfl (lv_at hl 2 rfl) ?_
      refine lv_iconst (v := 1) hx hb dX6_hint_40 (by decide) ?_
      have hg_21 : f_18 (h 6) = some (.inl (gk G 2, 24, .inl (I_19 6))) := hM.2.1 6 (by decide) rfl
      refine m_zast hx hb hC hH hg_21 (vp_in_iff.mpr ⟨by omega, by omega⟩) dX6_hint_41 (fun H locs hH => ?_)
      obtain ⟨f_22, ef_22⟩ : ∃ zz_ : mF, zz_ = va_up f_18 (h 6) (some (.inl (gk G 2, 24, .inl (upd (I_19 6) o.toNatClampNeg (vp_nar .boolean 1))))) := ⟨_, rfl⟩
      rw [← ef_22] at hH
      have hM : MEM G h n (nI hg, (fe + 0), ca, (gfS σ), wh, nI ((trS σ).length), nI wl.length, nI ac, nI th, sx) (va_up I_19 6 (upd (I_19 6) o.toNatClampNeg (vp_nar .boolean 1))) J_19 f_22 := hM.setI 6 (by decide) rfl ef_22
      have hfr := hfr.up 6 (by decide) ef_22
      rw [show vp_nar .boolean (1 : Int32) = 1 from by decide] at hM
      have hR := hR.hint (o := o.toNatClampNeg) (by omega)
      have hI : FM G h n T z A hg ver (va_up cq o.toNatClampNeg true) (fe + 0) tms ca wl wh ac th sx σ f_22 := ⟨_, _, hM, hR, hac_19, hth_19⟩
      obtain ⟨I_23, J_23, hM, hR, hac_23, hth_23⟩ := hI
      have hg_23 := hR.hg40
      have n24_23 := hR.n24
      have tl_23 := len_b hR.ok.2.2.1
      have wl_23 := hR.wl192
      have hgI_23 : (nI hg).toInt = ((hg : Nat) : Int) := nI_toInt (by omega)
      have tmI_23 : (nI ((trS σ).length)).toInt = (((trS σ).length : Nat) : Int) := nI_toInt (by omega)
      have wmI_23 : (nI wl.length).toInt = ((wl.length : Nat) : Int) := nI_toInt (by omega)
      have acI_23 : (nI ac).toInt = ((ac : Nat) : Int) := nI_toInt (by omega)
      have thI_23 : (nI th).toInt = ((th : Nat) : Int) := nI_toInt (by omega)
      have nIn_23 : (nI n).toInt = ((n : Nat) : Int) := nI_toInt (by omega)
      refine lv_iload_n hx hb dX6_hint_42 rfl (lv_at hl 0 rfl) ?_
      exact m_iret (v := 0) hx hb hr hlk hC hH (fun _ => (0, 0)) (by have hv_ : htA n cq o = 0 := (by unfold htA; rw [if_pos (by omega), bb_]; rfl); rw [hv_]; exact ⟨hfr, rfl, Or.inr ⟨by omega, ⟨_, _, hM, hR, hac_23, hth_23⟩⟩⟩) (Nat.le_of_ble_eq_true rfl) (Nat.le_of_ble_eq_true rfl) dX6_hint_43
  · skip
    have ic_6 : (r_3.toInt : Int) = 0 := ic_eq rfl kI_0 c_6
    refine lv_iconst (v := (-1)) hx hb dX6_hint_8 (by decide) ?_
    exact m_iret (v := (-1)) hx hb hr hlk hC hH (fun _ => (0, 0)) ⟨hfr, by unfold htA; rw [if_neg (by omega)], Or.inl ⟨by omega, ⟨_, _, hM, hR, hac_1, hth_1⟩⟩⟩ (Nat.le_of_ble_eq_true rfl) (Nat.le_of_ble_eq_true rfl) dX6_hint_9
set_option maxHeartbeats 4000000 in
set_option maxRecDepth 100000 in
theorem c_X6_times (l : Launch) (G : mG) (h : Nat → Nat) (n : Nat) (T z : Nat → Nat) (A : Nat → tA) (hg : Nat) (ver : Nat → Nat → tB) (cq : Nat → Bool) (fe : Int32) (tms : Nat → Int32) (ca : Int32) (wl : List Nat) (wh : Int32) (ac th : Nat) (sx : Int32) (σ : tS) (f : mF) (hI : FM G h n T z A hg ver cq fe tms ca wl wh ac th sx σ f) (j : Int32) : Met l yX6_times wsX6_times ({ frames := 2, cells := 0, slots := 0, locals := 46 }) (va_Pc [.ref (h 0), .int j] (mW G f)) (va_Qi (fun (r : Int32) (u : mS) => u.2 = f ∧ r = tmA n T tms j) (fun (u : mS) t => mW G u.2 t) (mA G)) 0 0 (mA G) := by
  refine mMet [.ref (h 0), .int j] (cc := cX6_times) (maxL := 3) (ret := (some .int)) (by decide) rfl (Nat.le_of_ble_eq_true rfl) ?_
  intro p e s m below meth c ls hx hb hr hml hts hown hlk hnm hC hH hl
  have hl : lv_has ls 3 [(0, .ref (h 0)), (1, .int j)] := hl
  have hI0_ := hI
  have hfr : frM h f f := frM.rf
  obtain ⟨I_1, J_1, hM, hR, hac_1, hth_1⟩ := hI
  have hg_1 := hR.hg40
  have n24_1 := hR.n24
  have tl_1 := len_b hR.ok.2.2.1
  have wl_1 := hR.wl192
  have hgI_1 : (nI hg).toInt = ((hg : Nat) : Int) := nI_toInt (by omega)
  have tmI_1 : (nI ((trS σ).length)).toInt = (((trS σ).length : Nat) : Int) := nI_toInt (by omega)
  have wmI_1 : (nI wl.length).toInt = ((wl.length : Nat) : Int) := nI_toInt (by omega)
  have acI_1 : (nI ac).toInt = ((ac : Nat) : Int) := nI_toInt (by omega)
  have thI_1 : (nI th).toInt = ((th : Nat) : Int) := nI_toInt (by omega)
  have nIn_1 : (nI n).toInt = ((n : Nat) : Int) := nI_toInt (by omega)
  refine lv_iload_n hx hb dX6_times_0 rfl (lv_at hl 1 rfl) ?_
  refine lv_i2l hx hb dX6_times_1 rfl ?_
  refine lv_topl (fun y_2 ey_2 => ?_)
  have iy_2 : y_2.toInt = j.toInt := lc_i2l ey_2 rfl
  have gy_2 := ic_rng j
  refine lv_lconst (v := 0) hx hb dX6_times_2 (by decide) ?_
  refine lv_ldc2 (v := 191) hx hb hown (hts (.constantLong RX6 212 (191)) (by decide +kernel)) dX6_times_3 ?_
  refine m_goi hH (va_runS (As := [.long y_2, .long 0, .long 191]) (rest := []) ⟨hx, hb, hml, hown, hts⟩ (c_X6_in l G f y_2 0 191) (va_cwS 3 hts gX6_times_X6_in rfl rfl rfl (by decide +kernel) ⟨Nat.le_of_ble_eq_true rfl, Nat.le_of_ble_eq_true rfl⟩) (m_preS hC hH) rfl rfl hl.1 rfl (lv_room (Nat.le_of_ble_eq_true rfl)) dX6_times_6 ⟨Nat.le_of_ble_eq_true rfl, Nat.le_of_ble_eq_true rfl⟩) (fun r_3 rho_5 f_4 H locs hw hH => ?_)
  obtain ⟨hu, hr_3⟩ := hw
  have hu : f_4 = f := hu
  rw [hu] at hH
  have hr_3 : (r_3.toInt = 1 ∧ 0 ≤ y_2.toInt ∧ y_2.toInt ≤ 191) ∨ (r_3.toInt = 0 ∧ (y_2.toInt < 0 ∨ 191 < y_2.toInt)) := by have q0 := (rfl : y_2.toInt = _); have q1 := kJ_0; have q2 := kJ_191; omega
  refine lv_if_eq (tgt := 46) hx hb dX6_times_9 (by decide) (fun c_6 => ?_) (fun c_6 => ?_)
  · skip
    have ic_6 : (r_3.toInt : Int) = 0 := ic_eq rfl kI_0 c_6
    refine lv_iconst (v := 0) hx hb dX6_times_46 (by decide) ?_
    refine lv_istore_n (lv' := [(2, .int 0), (0, .ref (h 0)), (1, .int j)]) hx hb dX6_times_47 rfl hl (by decide) rfl (fun ls hl => ?_)
    refine lv_iload_n hx hb dX6_times_48 rfl (lv_at hl 0 rfl) ?_
    refine lv_if_eq (tgt := 61) hx hb dX6_times_49 (by decide) (fun c_7 => ?_) (fun c_7 => ?_)
    · skip
      have ic_7 : (0 : Int) = 0 := ic_eq kI_0 kI_0 c_7
      refine lv_iconst (v := (-1)) hx hb dX6_times_61 (by decide) ?_
      exact m_iret (v := (-1)) hx hb hr hlk hC hH (fun _ => (0, 0)) ⟨rfl, by unfold tmA; rw [if_neg (fun z_ => by obtain ⟨z1_, z2_, z3_, -⟩ := z_; have := kJ_0; have := kJ_191; have := ic_clN (rfl : j.toInt = _) (by omega); omega)]⟩ (Nat.le_of_ble_eq_true rfl) (Nat.le_of_ble_eq_true rfl) dX6_times_62
    · skip
      have ic_7 : (0 : Int) ≠ 0 := ic_ne kI_0 kI_0 c_7
      omega
  · skip
    have ic_6 : (r_3.toInt : Int) ≠ 0 := ic_ne rfl kI_0 c_6
    refine lv_aload_n hx hb dX6_times_12 rfl (lv_at hl 0 rfl) ?_
    refine lv_iload_n hx hb dX6_times_13 rfl (lv_at hl 1 rfl) ?_
    refine lv_bipush (v := 8) hx hb dX6_times_14 (by decide) ?_
    refine lv_idiv hx hb dX6_times_16 (by decide) ?_
    refine lv_topi (fun x_8 ex_8 => ?_)
    have ix_8 : x_8.toInt = j.toInt / 8 := ic_div8 ex_8 rfl (by omega)
    have d8_x_8 : x_8.toInt = j.toInt / 8 := ic_div8 ex_8 rfl (by have := kJ_0; omega)
    have F_9 : f (h 0) = some (.inr (6, [.int (nI n), .ref (h 1), .int (nI hg), .ref (h 3), .ref (h 4), .ref (h 5), .ref (h 6), .int fe, .ref (h 8), .ref (h 9), .ref (h 10), .ref (h 11), .ref (h 12), .ref (h 13), .ref (h 14), .ref (h 15), .int ca, .long (gfS σ), .int wh, .int (nI ((trS σ).length)), .ref (h 20), .ref (h 21), .int (nI wl.length), .ref (h 23), .ref (h 24), .int (nI ac), .ref (h 26), .ref (h 27), .int (nI th), .int sx])) := hM.1
    have hI : FM G h n T z A hg ver cq fe tms ca wl wh ac th sx σ f := ⟨_, _, hM, hR, hac_1, hth_1⟩
    refine m_goi hH (va_runV (As := [.int x_8]) (rest := []) ⟨hx, hb, hml, hown, hts⟩ (c_X6_isObject l G h n T z A hg ver cq fe tms ca wl wh ac th sx σ f hI x_8) (cwV 1 hts gX6_times_X6_isObject rfl rfl rfl (by decide +kernel) ⟨Nat.le_of_ble_eq_true rfl, Nat.le_of_ble_eq_true rfl⟩) (m_preV (ci := 6) hC hH F_9 rfl) rfl rfl hl.1 rfl (lv_room (Nat.le_of_ble_eq_true rfl)) dX6_times_17 ⟨Nat.le_of_ble_eq_true rfl, Nat.le_of_ble_eq_true rfl⟩) (fun r_10 rho_12 f_11 H locs hw hH => ?_)
    obtain ⟨hu, hr_10⟩ := hw
    have hu : f_11 = f := hu
    rw [hu] at hH
    try dsimp only at hr_10
    refine lv_if_eq (tgt := 46) hx hb dX6_times_20 (by decide) (fun c_13 => ?_) (fun c_13 => ?_)
    · skip
      have ic_13 : (r_10.toInt : Int) = 0 := ic_eq rfl kI_0 c_13
      refine lv_iconst (v := 0) hx hb dX6_times_46 (by decide) ?_
      refine lv_istore_n (lv' := [(2, .int 0), (0, .ref (h 0)), (1, .int j)]) hx hb dX6_times_47 rfl hl (by decide) rfl (fun ls hl => ?_)
      refine lv_iload_n hx hb dX6_times_48 rfl (lv_at hl 0 rfl) ?_
      refine lv_if_eq (tgt := 61) hx hb dX6_times_49 (by decide) (fun c_14 => ?_) (fun c_14 => ?_)
      · skip
        have ic_14 : (0 : Int) = 0 := ic_eq kI_0 kI_0 c_14
        refine lv_iconst (v := (-1)) hx hb dX6_times_61 (by decide) ?_
        exact m_iret (v := (-1)) hx hb hr hlk hC hH (fun _ => (0, 0)) ⟨rfl, by unfold tmA; rw [if_neg (fun z_ => by obtain ⟨z1_, z2_, z3_, -⟩ := z_; have := kJ_0; have := kJ_191; have := ic_clN (rfl : j.toInt = _) (by omega); omega)]⟩ (Nat.le_of_ble_eq_true rfl) (Nat.le_of_ble_eq_true rfl) dX6_times_62
      · skip
        have ic_14 : (0 : Int) ≠ 0 := ic_ne kI_0 kI_0 c_14
        omega
    · skip
      have ic_13 : (r_10.toInt : Int) ≠ 0 := ic_ne rfl kI_0 c_13
      refine lv_iload_n hx hb dX6_times_23 rfl (lv_at hl 1 rfl) ?_
      refine lv_bipush (v := 8) hx hb dX6_times_24 (by decide) ?_
      refine lv_irem hx hb dX6_times_26 (by decide) ?_
      refine lv_topi (fun x_15 ex_15 => ?_)
      have ix_15 : x_15.toInt = j.toInt % 8 := ic_rem8 ex_15 rfl (by omega)
      have r8_ : x_15.toInt = j.toInt % 8 := ic_rem8 ex_15 rfl (by have := kJ_0; omega)
      refine lv_aload_n hx hb dX6_times_27 rfl (lv_at hl 0 rfl) ?_
      refine m_get (ci := 6) (v := .ref (h 1)) (C := RX6) (T := TX6) (N := 30) hx hb hC hH hts in_X6_times_X6 hown F_9 rfl 1 (by decide) (hts (.fieldLink RX6 7 "LazyStateModel" "types" "[I") (by decide +kernel)) rfl dX6_times_28 ?_
      refine lv_iload_n hx hb dX6_times_31 rfl (lv_at hl 1 rfl) ?_
      refine lv_bipush (v := 8) hx hb dX6_times_32 (by decide) ?_
      refine lv_idiv hx hb dX6_times_34 (by decide) ?_
      refine lv_topi (fun x_16 ex_16 => ?_)
      have ix_16 : x_16.toInt = j.toInt / 8 := ic_div8 ex_16 rfl (by omega)
      have d8_x_16 : x_16.toInt = j.toInt / 8 := ic_div8 ex_16 rfl (by have := kJ_0; omega)
      have hg_17 : f (h 1) = some (.inl (gk G 0, 24, .inl (I_1 1))) := hM.2.1 1 (by decide) rfl
      refine m_iald hx hb hC hH hg_17 (vp_in_iff.mpr ⟨by omega, by omega⟩) dX6_times_35 ?_
      refine lv_topi (fun x_18 ex_18 => ?_)
      have cj_ := ic_clN (rfl : j.toInt = _) (by have := kJ_0; omega)
      have q8_ : x_16.toNatClampNeg = j.toNatClampNeg / 8 := by have := ic_clN (rfl : x_16.toInt = _) (by omega); omega
      have ty_ : x_18.toInt = ((T (j.toNatClampNeg / 8) : Nat) : Int) := by rw [ex_18, q8_, hR.ty (by omega)]; exact nI_toInt (by have := hR.T3 (j.toNatClampNeg / 8); omega)
      refine m_goi hH (va_runS (As := [.int x_18]) (rest := [.int x_15]) ⟨hx, hb, hml, hown, hts⟩ (c_X6_fieldsOf l G f x_18) (va_cwS 1 hts gX6_times_X6_fieldsOf rfl rfl rfl (by decide +kernel) ⟨Nat.le_of_ble_eq_true rfl, Nat.le_of_ble_eq_true rfl⟩) (m_preS hC hH) rfl rfl hl.1 rfl (lv_room (Nat.le_of_ble_eq_true rfl)) dX6_times_36 ⟨Nat.le_of_ble_eq_true rfl, Nat.le_of_ble_eq_true rfl⟩) (fun r_19 rho_21 f_20 H locs hw hH => ?_)
      obtain ⟨hu, hr_19⟩ := hw
      have hu : f_20 = f := hu
      rw [hu] at hH
      have br_19 : 3 ≤ r_19.toInt ∧ r_19.toInt ≤ 6 := by rw [hr_19]; unfold fldM; (repeat' split) <;> omega
      refine lv_icmp_ge (tgt := 46) hx hb dX6_times_39 (by decide) (fun c_22 => ?_) (fun c_22 => ?_)
      · skip
        have ic_22 : (r_19.toInt : Int) ≤ x_15.toInt := ic_le rfl rfl c_22
        have no_ : ¬ srt (T (j.toNatClampNeg / 8)) (j.toNatClampNeg % 8) ≠ 0 := fun z_ => by have sm_ := srt_M (T (j.toNatClampNeg / 8)) (hR.T3 _) (j.toNatClampNeg % 8) (by omega); rw [show ((j.toNatClampNeg % 8 : Nat) : Int) = j.toInt % 8 from by omega] at sm_; have q_ := hr_19; rw [ty_] at q_; have w_ := sm_.1.mpr z_; omega
        refine lv_iconst (v := 0) hx hb dX6_times_46 (by decide) ?_
        refine lv_istore_n (lv' := [(2, .int 0), (0, .ref (h 0)), (1, .int j)]) hx hb dX6_times_47 rfl hl (by decide) rfl (fun ls hl => ?_)
        refine lv_iload_n hx hb dX6_times_48 rfl (lv_at hl 0 rfl) ?_
        refine lv_if_eq (tgt := 61) hx hb dX6_times_49 (by decide) (fun c_23 => ?_) (fun c_23 => ?_)
        · skip
          have ic_23 : (0 : Int) = 0 := ic_eq kI_0 kI_0 c_23
          refine lv_iconst (v := (-1)) hx hb dX6_times_61 (by decide) ?_
          exact m_iret (v := (-1)) hx hb hr hlk hC hH (fun _ => (0, 0)) ⟨rfl, by unfold tmA; rw [if_neg (fun z_ => no_ z_.2.2.2)]⟩ (Nat.le_of_ble_eq_true rfl) (Nat.le_of_ble_eq_true rfl) dX6_times_62
        · skip
          have ic_23 : (0 : Int) ≠ 0 := ic_ne kI_0 kI_0 c_23
          omega
      · skip
        have ic_22 : (r_19.toInt : Int) > x_15.toInt := ic_nle rfl rfl c_22
        have yes_ : srt (T (j.toNatClampNeg / 8)) (j.toNatClampNeg % 8) ≠ 0 := by have sm_ := srt_M (T (j.toNatClampNeg / 8)) (hR.T3 _) (j.toNatClampNeg % 8) (by omega); rw [show ((j.toNatClampNeg % 8 : Nat) : Int) = j.toInt % 8 from by omega] at sm_; have q_ := hr_19; rw [ty_] at q_; exact sm_.1.mp (by omega)
        refine lv_iconst (v := 1) hx hb dX6_times_42 (by decide) ?_
        refine lv_goto (tgt := 47) hx hb dX6_times_43 (by decide) ?_
        refine lv_istore_n (lv' := [(2, .int 1), (0, .ref (h 0)), (1, .int j)]) hx hb dX6_times_47 rfl hl (by decide) rfl (fun ls hl => ?_)
        refine lv_iload_n hx hb dX6_times_48 rfl (lv_at hl 0 rfl) ?_
        refine lv_if_eq (tgt := 61) hx hb dX6_times_49 (by decide) (fun c_24 => ?_) (fun c_24 => ?_)
        · skip
          have ic_24 : (1 : Int) = 0 := ic_eq kI_1 kI_0 c_24
          omega
        · skip
          have ic_24 : (1 : Int) ≠ 0 := ic_ne kI_1 kI_0 c_24
          refine lv_aload_n hx hb dX6_times_52 rfl (lv_at hl 1 rfl) ?_
          refine m_get (ci := 6) (v := .ref (h 8)) (C := RX6) (T := TX6) (N := 30) hx hb hC hH hts in_X6_times_X6 hown F_9 rfl 8 (by decide) (hts (.fieldLink RX6 28 "LazyStateModel" "times" "[I") (by decide +kernel)) rfl dX6_times_53 ?_
          refine lv_iload_n hx hb dX6_times_56 rfl (lv_at hl 2 rfl) ?_
          have hg_25 : f (h 8) = some (.inl (gk G 0, 192, .inl (I_1 8))) := hM.2.1 8 (by decide) rfl
          refine m_iald hx hb hC hH hg_25 (vp_in_iff.mpr ⟨by omega, by omega⟩) dX6_times_57 ?_
          refine lv_topi (fun x_26 ex_26 => ?_)
          have tv_ : x_26 = tms j.toNatClampNeg := by rw [ex_26]; exact hR.tmI (by have := kJ_191; omega)
          refine lv_goto (tgt := 62) hx hb dX6_times_58 (by decide) ?_
          exact m_iret (v := x_26) hx hb hr hlk hC hH (fun _ => (0, 0)) ⟨rfl, by unfold tmA; rw [if_pos ⟨by omega, by have := kJ_0; have := kJ_191; omega, by omega, yes_⟩]; exact tv_⟩ (Nat.le_of_ble_eq_true rfl) (Nat.le_of_ble_eq_true rfl) dX6_times_62
set_option maxHeartbeats 4000000 in
set_option maxRecDepth 100000 in
theorem c_X6_all (l : Launch) (G : mG) (h : Nat → Nat) (n : Nat) (T z : Nat → Nat) (A : Nat → tA) (hg : Nat) (ver : Nat → Nat → tB) (cq : Nat → Bool) (fe : Int32) (tms : Nat → Int32) (ca : Int32) (wl : List Nat) (wh : Int32) (ac th : Nat) (sx : Int32) (σ : tS) (f : mF) (hI : FM G h n T z A hg ver cq fe tms ca wl wh ac th sx σ f) (o b : Int32) (v : Int64) : Met l yX6_all wsX6_all ({ frames := 2, cells := 0, slots := 0, locals := 46 }) (va_Pc [.ref (h 0), .int o, .int b, .long v] (mW G f)) (va_Qi (fun (r : Int32) (u : mS) => u.2 = f ∧ r = alA n hg o b) (fun (u : mS) t => mW G u.2 t) (mA G)) 0 0 (mA G) := by
  refine mMet [.ref (h 0), .int o, .int b, .long v] (cc := cX6_all) (maxL := 5) (ret := (some .int)) (by decide) rfl (Nat.le_of_ble_eq_true rfl) ?_
  intro p e s m below meth c ls hx hb hr hml hts hown hlk hnm hC hH hl
  have hl : lv_has ls 5 [(0, .ref (h 0)), (1, .int o), (2, .int b), (3, .long v)] := hl
  have hI0_ := hI
  have hfr : frM h f f := frM.rf
  obtain ⟨I_1, J_1, hM, hR, hac_1, hth_1⟩ := hI
  have hg_1 := hR.hg40
  have n24_1 := hR.n24
  have tl_1 := len_b hR.ok.2.2.1
  have wl_1 := hR.wl192
  have hgI_1 : (nI hg).toInt = ((hg : Nat) : Int) := nI_toInt (by omega)
  have tmI_1 : (nI ((trS σ).length)).toInt = (((trS σ).length : Nat) : Int) := nI_toInt (by omega)
  have wmI_1 : (nI wl.length).toInt = ((wl.length : Nat) : Int) := nI_toInt (by omega)
  have acI_1 : (nI ac).toInt = ((ac : Nat) : Int) := nI_toInt (by omega)
  have thI_1 : (nI th).toInt = ((th : Nat) : Int) := nI_toInt (by omega)
  have nIn_1 : (nI n).toInt = ((n : Nat) : Int) := nI_toInt (by omega)
  refine lv_aload_n hx hb dX6_all_0 rfl (lv_at hl 0 rfl) ?_
  refine lv_iload_n hx hb dX6_all_1 rfl (lv_at hl 1 rfl) ?_
  have F_2 : f (h 0) = some (.inr (6, [.int (nI n), .ref (h 1), .int (nI hg), .ref (h 3), .ref (h 4), .ref (h 5), .ref (h 6), .int fe, .ref (h 8), .ref (h 9), .ref (h 10), .ref (h 11), .ref (h 12), .ref (h 13), .ref (h 14), .ref (h 15), .int ca, .long (gfS σ), .int wh, .int (nI ((trS σ).length)), .ref (h 20), .ref (h 21), .int (nI wl.length), .ref (h 23), .ref (h 24), .int (nI ac), .ref (h 26), .ref (h 27), .int (nI th), .int sx])) := hM.1
  have hI : FM G h n T z A hg ver cq fe tms ca wl wh ac th sx σ f := ⟨_, _, hM, hR, hac_1, hth_1⟩
  refine m_goi hH (va_runV (As := [.int o]) (rest := []) ⟨hx, hb, hml, hown, hts⟩ (c_X6_isObject l G h n T z A hg ver cq fe tms ca wl wh ac th sx σ f hI o) (cwV 1 hts gX6_all_X6_isObject rfl rfl rfl (by decide +kernel) ⟨Nat.le_of_ble_eq_true rfl, Nat.le_of_ble_eq_true rfl⟩) (m_preV (ci := 6) hC hH F_2 rfl) rfl rfl hl.1 rfl (lv_room (Nat.le_of_ble_eq_true rfl)) dX6_all_2 ⟨Nat.le_of_ble_eq_true rfl, Nat.le_of_ble_eq_true rfl⟩) (fun r_3 rho_5 f_4 H locs hw hH => ?_)
  obtain ⟨hu, hr_3⟩ := hw
  have hu : f_4 = f := hu
  rw [hu] at hH
  try dsimp only at hr_3
  refine lv_if_eq (tgt := 20) hx hb dX6_all_5 (by decide) (fun c_6 => ?_) (fun c_6 => ?_)
  · skip
    have ic_6 : (r_3.toInt : Int) = 0 := ic_eq rfl kI_0 c_6
    refine lv_iconst (v := (-1)) hx hb dX6_all_20 (by decide) ?_
    refine lv_goto (tgt := 39) hx hb dX6_all_21 (by decide) ?_
    exact m_iret (v := (-1)) hx hb hr hlk hC hH (fun _ => (0, 0)) ⟨rfl, by unfold alA; rw [if_neg (by have := kJ_0; have := kJ_5; omega)]⟩ (Nat.le_of_ble_eq_true rfl) (Nat.le_of_ble_eq_true rfl) dX6_all_39
  · skip
    have ic_6 : (r_3.toInt : Int) ≠ 0 := ic_ne rfl kI_0 c_6
    refine lv_iload_n hx hb dX6_all_8 rfl (lv_at hl 2 rfl) ?_
    refine lv_i2l hx hb dX6_all_9 rfl ?_
    refine lv_topl (fun y_7 ey_7 => ?_)
    have iy_7 : y_7.toInt = b.toInt := lc_i2l ey_7 rfl
    have gy_7 := ic_rng b
    refine lv_lconst (v := 0) hx hb dX6_all_10 (by decide) ?_
    refine lv_ldc2 (v := 5) hx hb hown (hts (.constantLong RX6 143 (5)) (by decide +kernel)) dX6_all_11 ?_
    refine m_goi hH (va_runS (As := [.long y_7, .long 0, .long 5]) (rest := []) ⟨hx, hb, hml, hown, hts⟩ (c_X6_in l G f y_7 0 5) (va_cwS 3 hts gX6_all_X6_in rfl rfl rfl (by decide +kernel) ⟨Nat.le_of_ble_eq_true rfl, Nat.le_of_ble_eq_true rfl⟩) (m_preS hC hH) rfl rfl hl.1 rfl (lv_room (Nat.le_of_ble_eq_true rfl)) dX6_all_14 ⟨Nat.le_of_ble_eq_true rfl, Nat.le_of_ble_eq_true rfl⟩) (fun r_8 rho_10 f_9 H locs hw hH => ?_)
    obtain ⟨hu, hr_8⟩ := hw
    have hu : f_9 = f := hu
    rw [hu] at hH
    have hr_8 : (r_8.toInt = 1 ∧ 0 ≤ y_7.toInt ∧ y_7.toInt ≤ 5) ∨ (r_8.toInt = 0 ∧ (y_7.toInt < 0 ∨ 5 < y_7.toInt)) := by have q0 := (rfl : y_7.toInt = _); have q1 := kJ_0; have q2 := kJ_5; omega
    refine lv_if_ne (tgt := 24) hx hb dX6_all_17 (by decide) (fun c_11 => ?_) (fun c_11 => ?_)
    · skip
      have ic_11 : (r_8.toInt : Int) ≠ 0 := ic_ne rfl kI_0 c_11
      refine lv_aload_n hx hb dX6_all_24 rfl (lv_at hl 0 rfl) ?_
      refine m_get (ci := 6) (v := .int (nI hg)) (C := RX6) (T := TX6) (N := 30) hx hb hC hH hts in_X6_all_X6 hown F_2 rfl 2 (by decide) (hts (.fieldLink RX6 104 "LazyStateModel" "height" "I") (by decide +kernel)) rfl dX6_all_25 ?_
      refine lv_bipush (v := 40) hx hb dX6_all_28 (by decide) ?_
      refine lv_icmp_ne (tgt := 38) hx hb dX6_all_30 (by decide) (fun c_12 => ?_) (fun c_12 => ?_)
      · skip
        have ic_12 : (((hg : Nat) : Int) : Int) ≠ 40 := ic_ne hgI_1 kI_40 c_12
        refine lv_iconst (v := 1) hx hb dX6_all_38 (by decide) ?_
        exact m_iret (v := 1) hx hb hr hlk hC hH (fun _ => (0, 0)) ⟨rfl, by unfold alA; rw [if_pos (by have := kJ_0; have := kJ_5; omega), if_neg (by omega)]⟩ (Nat.le_of_ble_eq_true rfl) (Nat.le_of_ble_eq_true rfl) dX6_all_39
      · skip
        have ic_12 : (((hg : Nat) : Int) : Int) = 40 := ic_eq hgI_1 kI_40 c_12
        refine lv_bipush (v := (-2)) hx hb dX6_all_33 (by decide) ?_
        refine lv_goto (tgt := 39) hx hb dX6_all_35 (by decide) ?_
        exact m_iret (v := (-2)) hx hb hr hlk hC hH (fun _ => (0, 0)) ⟨rfl, by unfold alA; rw [if_pos (by have := kJ_0; have := kJ_5; omega), if_pos (by omega)]⟩ (Nat.le_of_ble_eq_true rfl) (Nat.le_of_ble_eq_true rfl) dX6_all_39
    · skip
      have ic_11 : (r_8.toInt : Int) = 0 := ic_eq rfl kI_0 c_11
      refine lv_iconst (v := (-1)) hx hb dX6_all_20 (by decide) ?_
      refine lv_goto (tgt := 39) hx hb dX6_all_21 (by decide) ?_
      exact m_iret (v := (-1)) hx hb hr hlk hC hH (fun _ => (0, 0)) ⟨rfl, by unfold alA; rw [if_neg (by have := kJ_0; have := kJ_5; omega)]⟩ (Nat.le_of_ble_eq_true rfl) (Nat.le_of_ble_eq_true rfl) dX6_all_39
