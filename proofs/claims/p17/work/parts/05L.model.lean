set_option maxHeartbeats 4000000 in
set_option maxRecDepth 100000 in
theorem c_X6_has (l : Launch) (G : mG) (h : Nat → Nat) (n : Nat) (T z : Nat → Nat) (A : Nat → tA) (hg : Nat) (ver : Nat → Nat → tB) (cq : Nat → Bool) (fe : Int32) (tms : Nat → Int32) (ca : Int32) (wl : List Nat) (wh : Int32) (ac th : Nat) (sx : Int32) (σ : tS) (f : mF) (hI : FM G h n T z A hg ver cq fe tms ca wl wh ac th sx σ f) (o j st : Int32) (hst : 0 ≤ st.toInt) : Met l yX6_has wsX6_has ({ frames := 2, cells := 0, slots := 0, locals := 46 }) (va_Pc [.ref (h 0), .int o, .int j, .int st] (mW G f)) (va_Qi (fun (r : Int32) (u : mS) => u.2 = f ∧ ((r.toInt = 1 ∧ (0 ≤ o.toInt ∧ o.toInt < n ∧ 0 ≤ j.toInt ∧ j.toInt < 8 ∧ (srt (T o.toNatClampNeg) j.toNatClampNeg : Int) = st.toInt + 1)) ∨ (r.toInt = 0 ∧ ¬ (0 ≤ o.toInt ∧ o.toInt < n ∧ 0 ≤ j.toInt ∧ j.toInt < 8 ∧ (srt (T o.toNatClampNeg) j.toNatClampNeg : Int) = st.toInt + 1)))) (fun (u : mS) t => mW G u.2 t) (mA G)) 0 0 (mA G) := by
  refine mMet [.ref (h 0), .int o, .int j, .int st] (cc := cX6_has) (maxL := 4) (ret := (some .boolean)) (by decide) rfl (Nat.le_of_ble_eq_true rfl) ?_
  intro p e s m below meth c ls hx hb hr hml hts hown hlk hnm hC hH hl
  have hl : lv_has ls 4 [(0, .ref (h 0)), (1, .int o), (2, .int j), (3, .int st)] := hl
  have hI0_ := hI
  have hfr : frM h f f := frM.rf
  obtain ⟨I_1, J_1, hM, hR, hac_1, hth_1⟩ := hI
  have hg_1 := hR.hg40
  have n24_1 := hR.n24
  have tl_1 := len_b hR.ok.2.2.1
  have wl_1 := hR.wl192
  have hgI_1 : (nI hg).toInt = ((hg : Nat) : Int) := nI_toInt (by omega)
  have tmI_1 : (nI ((trS σ).length)).toInt = (((trS σ).length : Nat) : Int) := nI_toInt (by omega)
  have wmI_1 : (nI wl.length).toInt = ((wl.length : Nat) : Int) := nI_toInt (by omega)
  have acI_1 : (nI ac).toInt = ((ac : Nat) : Int) := nI_toInt (by omega)
  have thI_1 : (nI th).toInt = ((th : Nat) : Int) := nI_toInt (by omega)
  have nIn_1 : (nI n).toInt = ((n : Nat) : Int) := nI_toInt (by omega)
  refine lv_aload_n hx hb dX6_has_0 rfl (lv_at hl 0 rfl) ?_
  refine lv_iload_n hx hb dX6_has_1 rfl (lv_at hl 1 rfl) ?_
  have F_2 : f (h 0) = some (.inr (6, [.int (nI n), .ref (h 1), .int (nI hg), .ref (h 3), .ref (h 4), .ref (h 5), .ref (h 6), .int fe, .ref (h 8), .ref (h 9), .ref (h 10), .ref (h 11), .ref (h 12), .ref (h 13), .ref (h 14), .ref (h 15), .int ca, .long (gfS σ), .int wh, .int (nI ((trS σ).length)), .ref (h 20), .ref (h 21), .int (nI wl.length), .ref (h 23), .ref (h 24), .int (nI ac), .ref (h 26), .ref (h 27), .int (nI th), .int sx])) := hM.1
  have hI : FM G h n T z A hg ver cq fe tms ca wl wh ac th sx σ f := ⟨_, _, hM, hR, hac_1, hth_1⟩
  refine m_goi hH (va_runV (As := [.int o]) (rest := []) ⟨hx, hb, hml, hown, hts⟩ (c_X6_isObject l G h n T z A hg ver cq fe tms ca wl wh ac th sx σ f hI o) (cwV 1 hts gX6_has_X6_isObject rfl rfl rfl (by decide +kernel) ⟨Nat.le_of_ble_eq_true rfl, Nat.le_of_ble_eq_true rfl⟩) (m_preV (ci := 6) hC hH F_2 rfl) rfl rfl hl.1 rfl (lv_room (Nat.le_of_ble_eq_true rfl)) dX6_has_2 ⟨Nat.le_of_ble_eq_true rfl, Nat.le_of_ble_eq_true rfl⟩) (fun r_3 rho_5 f_4 H locs hw hH => ?_)
  obtain ⟨hu, hr_3⟩ := hw
  have hu : f_4 = f := hu
  rw [hu] at hH
  try dsimp only at hr_3
  refine lv_if_eq (tgt := 47) hx hb dX6_has_5 (by decide) (fun c_6 => ?_) (fun c_6 => ?_)
  · skip
    have ic_6 : (r_3.toInt : Int) = 0 := ic_eq rfl kI_0 c_6
    refine lv_iconst (v := 0) hx hb dX6_has_47 (by decide) ?_
    exact m_zret (v := 0) hx hb hr (by rfl) hlk hC hH (fun _ => (0, 0)) ⟨rfl, Or.inr ⟨kI_0, fun z_ => by omega⟩⟩ (Nat.le_of_ble_eq_true rfl) (Nat.le_of_ble_eq_true rfl) dX6_has_48
  · skip
    have ic_6 : (r_3.toInt : Int) ≠ 0 := ic_ne rfl kI_0 c_6
    refine lv_iload_n hx hb dX6_has_8 rfl (lv_at hl 2 rfl) ?_
    refine lv_i2l hx hb dX6_has_9 rfl ?_
    refine lv_topl (fun y_7 ey_7 => ?_)
    have iy_7 : y_7.toInt = j.toInt := lc_i2l ey_7 rfl
    have gy_7 := ic_rng j
    refine lv_lconst (v := 0) hx hb dX6_has_10 (by decide) ?_
    refine lv_aload_n hx hb dX6_has_11 rfl (lv_at hl 0 rfl) ?_
    refine m_get (ci := 6) (v := .ref (h 1)) (C := RX6) (T := TX6) (N := 30) hx hb hC hH hts in_X6_has_X6 hown F_2 rfl 1 (by decide) (hts (.fieldLink RX6 7 "LazyStateModel" "types" "[I") (by decide +kernel)) rfl dX6_has_12 ?_
    refine lv_iload_n hx hb dX6_has_15 rfl (lv_at hl 1 rfl) ?_
    have hg_8 : f (h 1) = some (.inl (gk G 0, 24, .inl (I_1 1))) := hM.2.1 1 (by decide) rfl
    refine m_iald hx hb hC hH hg_8 (vp_in_iff.mpr ⟨by omega, by omega⟩) dX6_has_16 ?_
    refine lv_topi (fun x_9 ex_9 => ?_)
    have co_ := ic_clN (rfl : o.toInt = _) (by omega)
    have ty1_ : x_9.toInt = ((T o.toNatClampNeg : Nat) : Int) := by rw [ex_9, hR.ty (by omega)]; exact nI_toInt (by have := hR.T3 o.toNatClampNeg; omega)
    refine m_goi hH (va_runS (As := [.int x_9]) (rest := [.long 0, .long y_7]) ⟨hx, hb, hml, hown, hts⟩ (c_X6_fieldsOf l G f x_9) (va_cwS 1 hts gX6_has_X6_fieldsOf rfl rfl rfl (by decide +kernel) ⟨Nat.le_of_ble_eq_true rfl, Nat.le_of_ble_eq_true rfl⟩) (m_preS hC hH) rfl rfl hl.1 rfl (lv_room (Nat.le_of_ble_eq_true rfl)) dX6_has_17 ⟨Nat.le_of_ble_eq_true rfl, Nat.le_of_ble_eq_true rfl⟩) (fun r_10 rho_12 f_11 H locs hw hH => ?_)
    obtain ⟨hu, hr_10⟩ := hw
    have hu : f_11 = f := hu
    rw [hu] at hH
    have br_10 : 3 ≤ r_10.toInt ∧ r_10.toInt ≤ 6 := by rw [hr_10]; unfold fldM; (repeat' split) <;> omega
    refine lv_iconst (v := 1) hx hb dX6_has_20 (by decide) ?_
    refine lv_isub hx hb dX6_has_21 ?_
    refine lv_topi (fun x_13 ex_13 => ?_)
    have ix_13 : x_13.toInt = r_10.toInt - 1 := ic_sub ex_13 rfl kI_1 (by omega) (by omega)
    refine lv_i2l hx hb dX6_has_22 rfl ?_
    refine lv_topl (fun y_14 ey_14 => ?_)
    have iy_14 : y_14.toInt = x_13.toInt := lc_i2l ey_14 rfl
    have gy_14 := ic_rng x_13
    refine m_goi hH (va_runS (As := [.long y_7, .long 0, .long y_14]) (rest := []) ⟨hx, hb, hml, hown, hts⟩ (c_X6_in l G f y_7 0 y_14) (va_cwS 3 hts gX6_has_X6_in rfl rfl rfl (by decide +kernel) ⟨Nat.le_of_ble_eq_true rfl, Nat.le_of_ble_eq_true rfl⟩) (m_preS hC hH) rfl rfl hl.1 rfl (lv_room (Nat.le_of_ble_eq_true rfl)) dX6_has_23 ⟨Nat.le_of_ble_eq_true rfl, Nat.le_of_ble_eq_true rfl⟩) (fun r_15 rho_17 f_16 H locs hw hH => ?_)
    obtain ⟨hu, hr_15⟩ := hw
    have hu : f_16 = f := hu
    rw [hu] at hH
    have hr_15 : (r_15.toInt = 1 ∧ 0 ≤ y_7.toInt ∧ y_7.toInt ≤ y_14.toInt) ∨ (r_15.toInt = 0 ∧ (y_7.toInt < 0 ∨ y_14.toInt < y_7.toInt)) := by have q0 := (rfl : y_7.toInt = _); have q1 := kJ_0; have q2 := (rfl : y_14.toInt = _); omega
    refine lv_if_eq (tgt := 47) hx hb dX6_has_26 (by decide) (fun c_18 => ?_) (fun c_18 => ?_)
    · skip
      have ic_18 : (r_15.toInt : Int) = 0 := ic_eq rfl kI_0 c_18
      refine lv_iconst (v := 0) hx hb dX6_has_47 (by decide) ?_
      exact m_zret (v := 0) hx hb hr (by rfl) hlk hC hH (fun _ => (0, 0)) ⟨rfl, Or.inr ⟨kI_0, fun z_ => by obtain ⟨z1_, z2_, z3_, z4_, z5_⟩ := z_; have q_ := hr_10; rw [ty1_] at q_; have t_ := hR.T3 o.toNatClampNeg; have cj_ := ic_clN (rfl : j.toInt = _) (by omega); have sm_ := srt_M (T o.toNatClampNeg) t_ j.toNatClampNeg (by omega); rw [cj_] at sm_; have p_ : srt (T o.toNatClampNeg) j.toNatClampNeg ≠ 0 := (by omega); have w_ := sm_.1.mpr p_; omega⟩⟩ (Nat.le_of_ble_eq_true rfl) (Nat.le_of_ble_eq_true rfl) dX6_has_48
    · skip
      have ic_18 : (r_15.toInt : Int) ≠ 0 := ic_ne rfl kI_0 c_18
      refine lv_aload_n hx hb dX6_has_29 rfl (lv_at hl 0 rfl) ?_
      refine m_get (ci := 6) (v := .ref (h 1)) (C := RX6) (T := TX6) (N := 30) hx hb hC hH hts in_X6_has_X6 hown F_2 rfl 1 (by decide) (hts (.fieldLink RX6 7 "LazyStateModel" "types" "[I") (by decide +kernel)) rfl dX6_has_30 ?_
      refine lv_iload_n hx hb dX6_has_33 rfl (lv_at hl 1 rfl) ?_
      refine m_iald hx hb hC hH hg_8 (vp_in_iff.mpr ⟨by omega, by omega⟩) dX6_has_34 ?_
      refine lv_topi (fun x_19 ex_19 => ?_)
      have ty2_ : x_19.toInt = ((T o.toNatClampNeg : Nat) : Int) := by rw [ex_19, hR.ty (by omega)]; exact nI_toInt (by have := hR.T3 o.toNatClampNeg; omega)
      refine lv_iload_n hx hb dX6_has_35 rfl (lv_at hl 2 rfl) ?_
      refine m_goi hH (va_runS (As := [.int x_19, .int j]) (rest := []) ⟨hx, hb, hml, hown, hts⟩ (c_X6_sortOf l G f x_19 j) (va_cwS 2 hts gX6_has_X6_sortOf rfl rfl rfl (by decide +kernel) ⟨Nat.le_of_ble_eq_true rfl, Nat.le_of_ble_eq_true rfl⟩) (m_preS hC hH) rfl rfl hl.1 rfl (lv_room (Nat.le_of_ble_eq_true rfl)) dX6_has_36 ⟨Nat.le_of_ble_eq_true rfl, Nat.le_of_ble_eq_true rfl⟩) (fun r_20 rho_22 f_21 H locs hw hH => ?_)
      obtain ⟨hu, hr_20⟩ := hw
      have hu : f_21 = f := hu
      rw [hu] at hH
      refine lv_iload_n hx hb dX6_has_39 rfl (lv_at hl 3 rfl) ?_
      refine lv_icmp_ne (tgt := 47) hx hb dX6_has_40 (by decide) (fun c_23 => ?_) (fun c_23 => ?_)
      · skip
        have ic_23 : (r_20.toInt : Int) ≠ st.toInt := ic_ne rfl rfl c_23
        refine lv_iconst (v := 0) hx hb dX6_has_47 (by decide) ?_
        exact m_zret (v := 0) hx hb hr (by rfl) hlk hC hH (fun _ => (0, 0)) ⟨rfl, Or.inr ⟨kI_0, fun z_ => by obtain ⟨z1_, z2_, z3_, z4_, z5_⟩ := z_; have t_ := hR.T3 o.toNatClampNeg; have cj_ := ic_clN (rfl : j.toInt = _) (by omega); have sm_ := srt_M (T o.toNatClampNeg) t_ j.toNatClampNeg (by omega); rw [cj_] at sm_; have p_ := sm_.2 (by omega); have r_ := hr_20; rw [ty2_] at r_; omega⟩⟩ (Nat.le_of_ble_eq_true rfl) (Nat.le_of_ble_eq_true rfl) dX6_has_48
      · skip
        have ic_23 : (r_20.toInt : Int) = st.toInt := ic_eq rfl rfl c_23
        refine lv_iconst (v := 1) hx hb dX6_has_43 (by decide) ?_
        refine lv_goto (tgt := 48) hx hb dX6_has_44 (by decide) ?_
        exact m_zret (v := 1) hx hb hr (by rfl) hlk hC hH (fun _ => (0, 0)) ⟨rfl, Or.inl ⟨kI_1, by omega, by omega, by omega, by have q_ := hr_10; rw [ty1_] at q_; have b_ := fldM_b ((T o.toNatClampNeg : Nat) : Int); omega, by have b_ := fldM_b ((T o.toNatClampNeg : Nat) : Int); have q_ := hr_10; rw [ty1_] at q_; have t_ := hR.T3 o.toNatClampNeg; have cj_ := ic_clN (rfl : j.toInt = _) (by omega); have sm_ := srt_M (T o.toNatClampNeg) t_ j.toNatClampNeg (by omega); rw [cj_] at sm_; have p_ := sm_.2 (sm_.1.mp (by omega)); have r_ := hr_20; rw [ty2_] at r_; omega⟩⟩ (Nat.le_of_ble_eq_true rfl) (Nat.le_of_ble_eq_true rfl) dX6_has_48
set_option maxHeartbeats 4000000 in
set_option maxRecDepth 100000 in
theorem c_X6_number (l : Launch) (G : mG) (h : Nat → Nat) (n : Nat) (T z : Nat → Nat) (A : Nat → tA) (hg : Nat) (ver : Nat → Nat → tB) (cq : Nat → Bool) (fe : Int32) (tms : Nat → Int32) (ca : Int32) (wl : List Nat) (wh : Int32) (ac th : Nat) (sx : Int32) (σ : tS) (f : mF) (hI : FM G h n T z A hg ver cq fe tms ca wl wh ac th sx σ f) (o j : Int32) (v : Int64) : Met l yX6_number wsX6_number ({ frames := 4, cells := 0, slots := 0, locals := 91 }) (va_Pc [.ref (h 0), .int o, .int j, .long v] (mW G f)) (va_Qi (fun (r : Int32) (u : mS) => frM h f u.2 ∧ ((¬ (0 ≤ o.toInt ∧ o.toInt < n ∧ 0 ≤ j.toInt ∧ j.toInt < 8 ∧ srt (T o.toNatClampNeg) j.toNatClampNeg = 1) ∧ r.toInt = -1 ∧ (∃ s2 : tS, ldS s2 = ldS σ ∧ trS s2 = trS σ ∧ gfS s2 = gfS σ ∧ FM G h n T z A hg ver cq fe tms ca wl wh ac th sx s2 u.2)) ∨ ((0 ≤ o.toInt ∧ o.toInt < n ∧ 0 ≤ j.toInt ∧ j.toInt < 8 ∧ srt (T o.toNatClampNeg) j.toNatClampNeg = 1) ∧ (dif n T (ver hg) (va_up (ver hg) o.toNatClampNeg (setC (ver hg o.toNatClampNeg) j.toNatClampNeg v)) (8 * o.toNatClampNeg + j.toNatClampNeg)) = false ∧ r.toInt = hg ∧ (∃ s2 : tS, ldS s2 = ldS σ ∧ trS s2 = trS σ ∧ gfS s2 = gfS σ ∧ FM G h n T z A hg ver cq fe tms ca wl wh ac th sx s2 u.2)) ∨ ((0 ≤ o.toInt ∧ o.toInt < n ∧ 0 ≤ j.toInt ∧ j.toInt < 8 ∧ srt (T o.toNatClampNeg) j.toNatClampNeg = 1) ∧ (dif n T (ver hg) (va_up (ver hg) o.toNatClampNeg (setC (ver hg o.toNatClampNeg) j.toNatClampNeg v)) (8 * o.toNatClampNeg + j.toNatClampNeg)) = true ∧ hg = 40 ∧ r.toInt = -2 ∧ (∃ s2 : tS, ldS s2 = ldS σ ∧ trS s2 = trS σ ∧ gfS s2 = gfS σ ∧ FM G h n T z A hg ver cq fe tms ca wl wh ac th sx s2 u.2)) ∨ ((0 ≤ o.toInt ∧ o.toInt < n ∧ 0 ≤ j.toInt ∧ j.toInt < 8 ∧ srt (T o.toNatClampNeg) j.toNatClampNeg = 1) ∧ (dif n T (ver hg) (va_up (ver hg) o.toNatClampNeg (setC (ver hg o.toNatClampNeg) j.toNatClampNeg v)) (8 * o.toNatClampNeg + j.toNatClampNeg)) = true ∧ hg ≤ 39 ∧ r.toInt = hg + 1 ∧ (∃ s2 : tS, ldS s2 = ldS σ ∧ trS s2 = trS σ ∧ gfS s2 = gfS σ ∧ FM G h n T z A (hg + 1) (va_up ver (hg + 1) (va_up (ver hg) o.toNatClampNeg (setC (ver hg o.toNatClampNeg) j.toNatClampNeg v))) (fun _ => false) fe tms ca wl wh ac th sx s2 u.2)))) (fun (u : mS) t => mW G u.2 t) (mA G)) 0 0 (mA G) := by
  refine mMet [.ref (h 0), .int o, .int j, .long v] (cc := cX6_number) (maxL := 5) (ret := (some .int)) (by decide) rfl (Nat.le_of_ble_eq_true rfl) ?_
  intro p e s m below meth c ls hx hb hr hml hts hown hlk hnm hC hH hl
  have hl : lv_has ls 5 [(0, .ref (h 0)), (1, .int o), (2, .int j), (3, .long v)] := hl
  have hI0_ := hI
  have hfr : frM h f f := frM.rf
  obtain ⟨I_1, J_1, hM, hR, hac_1, hth_1⟩ := hI
  have hg_1 := hR.hg40
  have n24_1 := hR.n24
  have tl_1 := len_b hR.ok.2.2.1
  have wl_1 := hR.wl192
  have hgI_1 : (nI hg).toInt = ((hg : Nat) : Int) := nI_toInt (by omega)
  have tmI_1 : (nI ((trS σ).length)).toInt = (((trS σ).length : Nat) : Int) := nI_toInt (by omega)
  have wmI_1 : (nI wl.length).toInt = ((wl.length : Nat) : Int) := nI_toInt (by omega)
  have acI_1 : (nI ac).toInt = ((ac : Nat) : Int) := nI_toInt (by omega)
  have thI_1 : (nI th).toInt = ((th : Nat) : Int) := nI_toInt (by omega)
  have nIn_1 : (nI n).toInt = ((n : Nat) : Int) := nI_toInt (by omega)
  refine lv_aload_n hx hb dX6_number_0 rfl (lv_at hl 0 rfl) ?_
  refine lv_iload_n hx hb dX6_number_1 rfl (lv_at hl 1 rfl) ?_
  refine lv_iload_n hx hb dX6_number_2 rfl (lv_at hl 2 rfl) ?_
  refine lv_iconst (v := 0) hx hb dX6_number_3 (by decide) ?_
  have F_2 : f (h 0) = some (.inr (6, [.int (nI n), .ref (h 1), .int (nI hg), .ref (h 3), .ref (h 4), .ref (h 5), .ref (h 6), .int fe, .ref (h 8), .ref (h 9), .ref (h 10), .ref (h 11), .ref (h 12), .ref (h 13), .ref (h 14), .ref (h 15), .int ca, .long (gfS σ), .int wh, .int (nI ((trS σ).length)), .ref (h 20), .ref (h 21), .int (nI wl.length), .ref (h 23), .ref (h 24), .int (nI ac), .ref (h 26), .ref (h 27), .int (nI th), .int sx])) := hM.1
  have hI : FM G h n T z A hg ver cq fe tms ca wl wh ac th sx σ f := ⟨_, _, hM, hR, hac_1, hth_1⟩
  refine m_goi hH (va_runV (As := [.int o, .int j, .int 0]) (rest := []) ⟨hx, hb, hml, hown, hts⟩ (c_X6_has l G h n T z A hg ver cq fe tms ca wl wh ac th sx σ f hI o j 0 (by have := kI_0; have := kI_1; have := kI_2; omega)) (cwV 3 hts gX6_number_X6_has rfl rfl rfl (by decide +kernel) ⟨Nat.le_of_ble_eq_true rfl, Nat.le_of_ble_eq_true rfl⟩) (m_preV (ci := 6) hC hH F_2 rfl) rfl rfl hl.1 rfl (lv_room (Nat.le_of_ble_eq_true rfl)) dX6_number_4 ⟨Nat.le_of_ble_eq_true rfl, Nat.le_of_ble_eq_true rfl⟩) (fun r_3 rho_5 f_4 H locs hw hH => ?_)
  obtain ⟨hu, hr_3⟩ := hw
  have hu : f_4 = f := hu
  rw [hu] at hH
  try dsimp only at hr_3
  refine lv_if_ne (tgt := 12) hx hb dX6_number_7 (by decide) (fun c_6 => ?_) (fun c_6 => ?_)
  · skip
    have ic_6 : (r_3.toInt : Int) ≠ 0 := ic_ne rfl kI_0 c_6
    have hv_ : (0 ≤ o.toInt ∧ o.toInt < n ∧ 0 ≤ j.toInt ∧ j.toInt < 8 ∧ srt (T o.toNatClampNeg) j.toNatClampNeg = 1) := by obtain ⟨-, z1_, z2_, z3_, z4_, z5_⟩ := hr_3.resolve_right (fun z_ => by omega); have := kI_0; exact ⟨z1_, z2_, z3_, z4_, by omega⟩
    obtain ⟨v1_, v2_, v3_, v4_, v5_⟩ := hv_
    have co_ := ic_clN (rfl : o.toInt = _) (by omega)
    have cj_ := ic_clN (rfl : j.toInt = _) (by omega)
    refine lv_aload_n hx hb dX6_number_12 rfl (lv_at hl 0 rfl) ?_
    refine lv_aload_n hx hb dX6_number_13 rfl (lv_at hl 0 rfl) ?_
    refine m_get (ci := 6) (v := .int (nI hg)) (C := RX6) (T := TX6) (N := 30) hx hb hC hH hts in_X6_number_X6 hown F_2 rfl 2 (by decide) (hts (.fieldLink RX6 104 "LazyStateModel" "height" "I") (by decide +kernel)) rfl dX6_number_14 ?_
    refine lv_bipush (v := 41) hx hb dX6_number_17 (by decide) ?_
    refine m_gov hH (va_runV (As := [.int (nI hg), .int 41]) (rest := []) ⟨hx, hb, hml, hown, hts⟩ (c_X6_copyAll l G h n (nI hg, fe, ca, (gfS σ), wh, nI ((trS σ).length), nI wl.length, nI ac, nI th, sx) I_1 J_1 f hM (nI hg) 41 (by have := hgI_1; have := kI_41; omega) (by have := hgI_1; have := kI_41; omega)) (cwV 2 hts gX6_number_X6_copyAll rfl rfl rfl (by decide +kernel) ⟨Nat.le_of_ble_eq_true rfl, Nat.le_of_ble_eq_true rfl⟩) (m_preV (ci := 6) hC hH F_2 rfl) rfl rfl hl.1 rfl (lv_room (Nat.le_of_ble_eq_true rfl)) dX6_number_19 ⟨Nat.le_of_ble_eq_true rfl, Nat.le_of_ble_eq_true rfl⟩) (fun rho_9 f_8 H locs hw hH => ?_)
    obtain ⟨hfr1, hM⟩ := hw
    have hfr1 : frM h f f_8 := hfr1
    have hfr := hfr.trans hfr1
    have hM : MEM G h n (nI hg, fe, ca, (gfS σ), wh, nI ((trS σ).length), nI wl.length, nI ac, nI th, sx) (va_up (va_up I_1 4 (va_cpy (I_1 4) (I_1 4) (192 * (nI hg).toNatClampNeg) (192 * (41 : Int32).toNatClampNeg) 192)) 5 (va_cpy (I_1 5) (I_1 5) (1536 * (nI hg).toNatClampNeg) (1536 * (41 : Int32).toNatClampNeg) (8 * 192))) (va_up J_1 3 (va_cpy (J_1 3) (J_1 3) (192 * (nI hg).toNatClampNeg) (192 * (41 : Int32).toNatClampNeg) 192)) f_8 := hM
    rw [show (nI hg).toNatClampNeg = hg from (nI_cl (by omega))] at hM
    rw [show (41 : Int32).toNatClampNeg = 41 from rfl] at hM
    have hR := hR.toAT
    have hI : FM G h n T z A hg ver cq fe tms ca wl wh ac th sx (sAll σ (ver hg)) f_8 := ⟨_, _, hM, hR, hac_1, hth_1⟩
    obtain ⟨I_10, J_10, hM, hR, hac_10, hth_10⟩ := hI
    have hg_10 := hR.hg40
    have n24_10 := hR.n24
    have tl_10 := len_b hR.ok.2.2.1
    have wl_10 := hR.wl192
    have hgI_10 : (nI hg).toInt = ((hg : Nat) : Int) := nI_toInt (by omega)
    have tmI_10 : (nI ((trS (sAll σ (ver hg))).length)).toInt = (((trS (sAll σ (ver hg))).length : Nat) : Int) := nI_toInt (by omega)
    have wmI_10 : (nI wl.length).toInt = ((wl.length : Nat) : Int) := nI_toInt (by omega)
    have acI_10 : (nI ac).toInt = ((ac : Nat) : Int) := nI_toInt (by omega)
    have thI_10 : (nI th).toInt = ((th : Nat) : Int) := nI_toInt (by omega)
    have nIn_10 : (nI n).toInt = ((n : Nat) : Int) := nI_toInt (by omega)
    refine lv_aload_n hx hb dX6_number_22 rfl (lv_at hl 0 rfl) ?_
    have F_11 : f_8 (h 0) = some (.inr (6, [.int (nI n), .ref (h 1), .int (nI hg), .ref (h 3), .ref (h 4), .ref (h 5), .ref (h 6), .int fe, .ref (h 8), .ref (h 9), .ref (h 10), .ref (h 11), .ref (h 12), .ref (h 13), .ref (h 14), .ref (h 15), .int ca, .long (gfS (sAll σ (ver hg))), .int wh, .int (nI ((trS (sAll σ (ver hg))).length)), .ref (h 20), .ref (h 21), .int (nI wl.length), .ref (h 23), .ref (h 24), .int (nI ac), .ref (h 26), .ref (h 27), .int (nI th), .int sx])) := hM.1
    refine m_get (ci := 6) (v := .ref (h 3)) (C := RX6) (T := TX6) (N := 30) hx hb hC hH hts in_X6_number_X6 hown F_11 rfl 3 (by decide) (hts (.fieldLink RX6 13 "LazyStateModel" "numbers" "[J") (by decide +kernel)) rfl dX6_number_23 ?_
    refine lv_sipush (v := 7872) hx hb dX6_number_26 (by decide) ?_
    refine lv_bipush (v := 8) hx hb dX6_number_29 (by decide) ?_
    refine lv_iload_n hx hb dX6_number_31 rfl (lv_at hl 1 rfl) ?_
    refine lv_imul hx hb dX6_number_32 ?_
    refine lv_topi (fun x_12 ex_12 => ?_)
    have ix_12 : x_12.toInt = 8 * o.toInt := ic_mul ex_12 kI_8 rfl (by omega) (by omega)
    refine lv_iadd hx hb dX6_number_33 ?_
    refine lv_topi (fun x_13 ex_13 => ?_)
    have ix_13 : x_13.toInt = 7872 + x_12.toInt := ic_add ex_13 kI_7872 rfl (by omega) (by omega)
    refine lv_iload_n hx hb dX6_number_34 rfl (lv_at hl 2 rfl) ?_
    refine lv_iadd hx hb dX6_number_35 ?_
    refine lv_topi (fun x_14 ex_14 => ?_)
    have ix_14 : x_14.toInt = x_13.toInt + j.toInt := ic_add ex_14 rfl rfl (by omega) (by omega)
    refine lv_lload_n hx hb dX6_number_36 rfl (lv_at hl 3 rfl) ?_
    have hg_15 : f_8 (h 3) = some (.inl (gk G 1, 8064, .inr (.inl (J_10 3)))) := hM.2.2.1 3 (by decide) rfl
    refine m_last hx hb hC hH hg_15 (vp_in_iff.mpr ⟨by omega, by omega⟩) dX6_number_37 (fun H locs hH => ?_)
    obtain ⟨f_16, ef_16⟩ : ∃ zz_ : mF, zz_ = va_up f_8 (h 3) (some (.inl (gk G 1, 8064, .inr (.inl (vp_updL (J_10 3) x_14.toNatClampNeg v))))) := ⟨_, rfl⟩
    rw [← ef_16] at hH
    have hM : MEM G h n (nI hg, fe, ca, (gfS (sAll σ (ver hg))), wh, nI ((trS (sAll σ (ver hg))).length), nI wl.length, nI ac, nI th, sx) I_10 (va_up J_10 3 (vp_updL (J_10 3) x_14.toNatClampNeg v)) f_16 := hM.setJ 3 (by decide) rfl ef_16
    have hfr := hfr.up 3 (by decide) ef_16
    have nn_17 : x_14.toNatClampNeg = 192 * 41 + 8 * o.toNatClampNeg + j.toNatClampNeg := by have := ic_clN (rfl : x_14.toInt = _) (by omega); omega
    rw [nn_17] at hM
    have okv_ := hR.okV hg (Nat.le_refl _) o.toNatClampNeg (by omega)
    have hR := hR.nu (o := o.toNatClampNeg) (j := j.toNatClampNeg) (v := v) (by omega) (by omega) (by rw [v5_]; decide) (okBd_C okv_ (by rw [v5_]; decide) (by rw [v5_]; decide) (fun z_ => by rw [v5_] at z_; cases z_))
    have hI : FM G h n T z A hg ver cq fe tms ca wl wh ac th sx (sBd (sAll σ (ver hg)) o.toNatClampNeg (setC (ver hg o.toNatClampNeg) j.toNatClampNeg v)) f_16 := ⟨_, _, hM, hR, hac_10, hth_10⟩
    obtain ⟨I_18, J_18, hM, hR, hac_18, hth_18⟩ := hI
    have hg_18 := hR.hg40
    have n24_18 := hR.n24
    have tl_18 := len_b hR.ok.2.2.1
    have wl_18 := hR.wl192
    have hgI_18 : (nI hg).toInt = ((hg : Nat) : Int) := nI_toInt (by omega)
    have tmI_18 : (nI ((trS (sBd (sAll σ (ver hg)) o.toNatClampNeg (setC (ver hg o.toNatClampNeg) j.toNatClampNeg v))).length)).toInt = (((trS (sBd (sAll σ (ver hg)) o.toNatClampNeg (setC (ver hg o.toNatClampNeg) j.toNatClampNeg v))).length : Nat) : Int) := nI_toInt (by omega)
    have wmI_18 : (nI wl.length).toInt = ((wl.length : Nat) : Int) := nI_toInt (by omega)
    have acI_18 : (nI ac).toInt = ((ac : Nat) : Int) := nI_toInt (by omega)
    have thI_18 : (nI th).toInt = ((th : Nat) : Int) := nI_toInt (by omega)
    have nIn_18 : (nI n).toInt = ((n : Nat) : Int) := nI_toInt (by omega)
    refine lv_aload_n hx hb dX6_number_38 rfl (lv_at hl 0 rfl) ?_
    refine lv_bipush (v := 8) hx hb dX6_number_39 (by decide) ?_
    refine lv_iload_n hx hb dX6_number_41 rfl (lv_at hl 1 rfl) ?_
    refine lv_imul hx hb dX6_number_42 ?_
    refine lv_topi (fun x_19 ex_19 => ?_)
    have ix_19 : x_19.toInt = 8 * o.toInt := ic_mul ex_19 kI_8 rfl (by omega) (by omega)
    refine lv_iload_n hx hb dX6_number_43 rfl (lv_at hl 2 rfl) ?_
    refine lv_iadd hx hb dX6_number_44 ?_
    refine lv_topi (fun x_20 ex_20 => ?_)
    have ix_20 : x_20.toInt = x_19.toInt + j.toInt := ic_add ex_20 rfl rfl (by omega) (by omega)
    have F_21 : f_16 (h 0) = some (.inr (6, [.int (nI n), .ref (h 1), .int (nI hg), .ref (h 3), .ref (h 4), .ref (h 5), .ref (h 6), .int fe, .ref (h 8), .ref (h 9), .ref (h 10), .ref (h 11), .ref (h 12), .ref (h 13), .ref (h 14), .ref (h 15), .int ca, .long (gfS (sBd (sAll σ (ver hg)) o.toNatClampNeg (setC (ver hg o.toNatClampNeg) j.toNatClampNeg v))), .int wh, .int (nI ((trS (sBd (sAll σ (ver hg)) o.toNatClampNeg (setC (ver hg o.toNatClampNeg) j.toNatClampNeg v))).length)), .ref (h 20), .ref (h 21), .int (nI wl.length), .ref (h 23), .ref (h 24), .int (nI ac), .ref (h 26), .ref (h 27), .int (nI th), .int sx])) := hM.1
    have hI : FM G h n T z A hg ver cq fe tms ca wl wh ac th sx (sBd (sAll σ (ver hg)) o.toNatClampNeg (setC (ver hg o.toNatClampNeg) j.toNatClampNeg v)) f_16 := ⟨_, _, hM, hR, hac_18, hth_18⟩
    refine m_goi hH (va_runV (As := [.int x_20]) (rest := []) ⟨hx, hb, hml, hown, hts⟩ (c_X6_changed l G h n T z A hg ver cq fe tms ca wl wh ac th sx (sBd (sAll σ (ver hg)) o.toNatClampNeg (setC (ver hg o.toNatClampNeg) j.toNatClampNeg v)) f_16 hI x_20 (8 * o.toNatClampNeg + j.toNatClampNeg) (by omega) (by omega)) (cwV 1 hts gX6_number_X6_changed rfl rfl rfl (by decide +kernel) ⟨Nat.le_of_ble_eq_true rfl, Nat.le_of_ble_eq_true rfl⟩) (m_preV (ci := 6) hC hH F_21 rfl) rfl rfl hl.1 rfl (lv_room (Nat.le_of_ble_eq_true rfl)) dX6_number_45 ⟨Nat.le_of_ble_eq_true rfl, Nat.le_of_ble_eq_true rfl⟩) (fun r_22 rho_24 f_23 H locs hw hH => ?_)
    have hch_ := hw
    try dsimp only at hch_
    exact m_iret (v := r_22) hx hb hr hlk hC hH (fun _ => (0, 0)) (by rcases hch_ with ⟨d_, u_, r_⟩ | ⟨d_, e_, u_, r_⟩ | ⟨d_, e_, r_, fr_, I_⟩; (rw [u_]; exact ⟨hfr, Or.inr (Or.inl ⟨⟨v1_, v2_, v3_, v4_, v5_⟩, d_, r_, ⟨(sBd (sAll σ (ver hg)) o.toNatClampNeg (setC (ver hg o.toNatClampNeg) j.toNatClampNeg v)), rfl, rfl, rfl, hI⟩⟩)⟩); (rw [u_]; exact ⟨hfr, Or.inr (Or.inr (Or.inl ⟨⟨v1_, v2_, v3_, v4_, v5_⟩, d_, e_, r_, ⟨(sBd (sAll σ (ver hg)) o.toNatClampNeg (setC (ver hg o.toNatClampNeg) j.toNatClampNeg v)), rfl, rfl, rfl, hI⟩⟩))⟩); exact ⟨hfr.trans fr_, Or.inr (Or.inr (Or.inr ⟨⟨v1_, v2_, v3_, v4_, v5_⟩, d_, e_, r_, ⟨(sBd (sAll σ (ver hg)) o.toNatClampNeg (setC (ver hg o.toNatClampNeg) j.toNatClampNeg v)), rfl, rfl, rfl, I_⟩⟩))⟩) (Nat.le_of_ble_eq_true rfl) (Nat.le_of_ble_eq_true rfl) dX6_number_48
  · skip
    have ic_6 : (r_3.toInt : Int) = 0 := ic_eq rfl kI_0 c_6
    have nv_ : ¬ (0 ≤ o.toInt ∧ o.toInt < n ∧ 0 ≤ j.toInt ∧ j.toInt < 8 ∧ srt (T o.toNatClampNeg) j.toNatClampNeg = 1) := fun z_ => (hr_3.resolve_left (fun y_ => by omega)).2 (by have := kI_0; exact ⟨z_.1, z_.2.1, z_.2.2.1, z_.2.2.2.1, by omega⟩)
    refine lv_iconst (v := (-1)) hx hb dX6_number_10 (by decide) ?_
    exact m_iret (v := (-1)) hx hb hr hlk hC hH (fun _ => (0, 0)) ⟨hfr, Or.inl ⟨nv_, kI_m1, σ, rfl, rfl, rfl, ⟨_, _, hM, hR, hac_1, hth_1⟩⟩⟩ (Nat.le_of_ble_eq_true rfl) (Nat.le_of_ble_eq_true rfl) dX6_number_11
set_option maxHeartbeats 4000000 in
set_option maxRecDepth 100000 in
theorem c_X6_link (l : Launch) (G : mG) (h : Nat → Nat) (n : Nat) (T z : Nat → Nat) (A : Nat → tA) (hg : Nat) (ver : Nat → Nat → tB) (cq : Nat → Bool) (fe : Int32) (tms : Nat → Int32) (ca : Int32) (wl : List Nat) (wh : Int32) (ac th : Nat) (sx : Int32) (σ : tS) (f : mF) (hI : FM G h n T z A hg ver cq fe tms ca wl wh ac th sx σ f) (o j p_ : Int32) : Met l yX6_link wsX6_link ({ frames := 4, cells := 0, slots := 0, locals := 91 }) (va_Pc [.ref (h 0), .int o, .int j, .int p_] (mW G f)) (va_Qi (fun (r : Int32) (u : mS) => frM h f u.2 ∧ ((¬ ((0 ≤ o.toInt ∧ o.toInt < n ∧ 0 ≤ j.toInt ∧ j.toInt < 8 ∧ srt (T o.toNatClampNeg) j.toNatClampNeg = 2) ∧ (p_.toInt = -3 ∨ (0 ≤ p_.toInt ∧ p_.toInt < n))) ∧ r.toInt = -1 ∧ (∃ s2 : tS, ldS s2 = ldS σ ∧ trS s2 = trS σ ∧ gfS s2 = gfS σ ∧ FM G h n T z A hg ver cq fe tms ca wl wh ac th sx s2 u.2)) ∨ (((0 ≤ o.toInt ∧ o.toInt < n ∧ 0 ≤ j.toInt ∧ j.toInt < 8 ∧ srt (T o.toNatClampNeg) j.toNatClampNeg = 2) ∧ (p_.toInt = -3 ∨ (0 ≤ p_.toInt ∧ p_.toInt < n))) ∧ (dif n T (ver hg) (va_up (ver hg) o.toNatClampNeg (setC (ver hg o.toNatClampNeg) j.toNatClampNeg p_.toInt64)) (8 * o.toNatClampNeg + j.toNatClampNeg)) = false ∧ r.toInt = hg ∧ (∃ s2 : tS, ldS s2 = ldS σ ∧ trS s2 = trS σ ∧ gfS s2 = gfS σ ∧ FM G h n T z A hg ver cq fe tms ca wl wh ac th sx s2 u.2)) ∨ (((0 ≤ o.toInt ∧ o.toInt < n ∧ 0 ≤ j.toInt ∧ j.toInt < 8 ∧ srt (T o.toNatClampNeg) j.toNatClampNeg = 2) ∧ (p_.toInt = -3 ∨ (0 ≤ p_.toInt ∧ p_.toInt < n))) ∧ (dif n T (ver hg) (va_up (ver hg) o.toNatClampNeg (setC (ver hg o.toNatClampNeg) j.toNatClampNeg p_.toInt64)) (8 * o.toNatClampNeg + j.toNatClampNeg)) = true ∧ hg = 40 ∧ r.toInt = -2 ∧ (∃ s2 : tS, ldS s2 = ldS σ ∧ trS s2 = trS σ ∧ gfS s2 = gfS σ ∧ FM G h n T z A hg ver cq fe tms ca wl wh ac th sx s2 u.2)) ∨ (((0 ≤ o.toInt ∧ o.toInt < n ∧ 0 ≤ j.toInt ∧ j.toInt < 8 ∧ srt (T o.toNatClampNeg) j.toNatClampNeg = 2) ∧ (p_.toInt = -3 ∨ (0 ≤ p_.toInt ∧ p_.toInt < n))) ∧ (dif n T (ver hg) (va_up (ver hg) o.toNatClampNeg (setC (ver hg o.toNatClampNeg) j.toNatClampNeg p_.toInt64)) (8 * o.toNatClampNeg + j.toNatClampNeg)) = true ∧ hg ≤ 39 ∧ r.toInt = hg + 1 ∧ (∃ s2 : tS, ldS s2 = ldS σ ∧ trS s2 = trS σ ∧ gfS s2 = gfS σ ∧ FM G h n T z A (hg + 1) (va_up ver (hg + 1) (va_up (ver hg) o.toNatClampNeg (setC (ver hg o.toNatClampNeg) j.toNatClampNeg p_.toInt64))) (fun _ => false) fe tms ca wl wh ac th sx s2 u.2)))) (fun (u : mS) t => mW G u.2 t) (mA G)) 0 0 (mA G) := by
  refine mMet [.ref (h 0), .int o, .int j, .int p_] (cc := cX6_link) (maxL := 4) (ret := (some .int)) (by decide) rfl (Nat.le_of_ble_eq_true rfl) ?_
  intro p e s m below meth c ls hx hb hr hml hts hown hlk hnm hC hH hl
  have hl : lv_has ls 4 [(0, .ref (h 0)), (1, .int o), (2, .int j), (3, .int p_)] := hl
  have hI0_ := hI
  have hfr : frM h f f := frM.rf
  obtain ⟨I_1, J_1, hM, hR, hac_1, hth_1⟩ := hI
  have hg_1 := hR.hg40
  have n24_1 := hR.n24
  have tl_1 := len_b hR.ok.2.2.1
  have wl_1 := hR.wl192
  have hgI_1 : (nI hg).toInt = ((hg : Nat) : Int) := nI_toInt (by omega)
  have tmI_1 : (nI ((trS σ).length)).toInt = (((trS σ).length : Nat) : Int) := nI_toInt (by omega)
  have wmI_1 : (nI wl.length).toInt = ((wl.length : Nat) : Int) := nI_toInt (by omega)
  have acI_1 : (nI ac).toInt = ((ac : Nat) : Int) := nI_toInt (by omega)
  have thI_1 : (nI th).toInt = ((th : Nat) : Int) := nI_toInt (by omega)
  have nIn_1 : (nI n).toInt = ((n : Nat) : Int) := nI_toInt (by omega)
  refine lv_aload_n hx hb dX6_link_0 rfl (lv_at hl 0 rfl) ?_
  refine lv_iload_n hx hb dX6_link_1 rfl (lv_at hl 1 rfl) ?_
  refine lv_iload_n hx hb dX6_link_2 rfl (lv_at hl 2 rfl) ?_
  refine lv_iconst (v := 1) hx hb dX6_link_3 (by decide) ?_
  have F_2 : f (h 0) = some (.inr (6, [.int (nI n), .ref (h 1), .int (nI hg), .ref (h 3), .ref (h 4), .ref (h 5), .ref (h 6), .int fe, .ref (h 8), .ref (h 9), .ref (h 10), .ref (h 11), .ref (h 12), .ref (h 13), .ref (h 14), .ref (h 15), .int ca, .long (gfS σ), .int wh, .int (nI ((trS σ).length)), .ref (h 20), .ref (h 21), .int (nI wl.length), .ref (h 23), .ref (h 24), .int (nI ac), .ref (h 26), .ref (h 27), .int (nI th), .int sx])) := hM.1
  have hI : FM G h n T z A hg ver cq fe tms ca wl wh ac th sx σ f := ⟨_, _, hM, hR, hac_1, hth_1⟩
  refine m_goi hH (va_runV (As := [.int o, .int j, .int 1]) (rest := []) ⟨hx, hb, hml, hown, hts⟩ (c_X6_has l G h n T z A hg ver cq fe tms ca wl wh ac th sx σ f hI o j 1 (by have := kI_0; have := kI_1; have := kI_2; omega)) (cwV 3 hts gX6_link_X6_has rfl rfl rfl (by decide +kernel) ⟨Nat.le_of_ble_eq_true rfl, Nat.le_of_ble_eq_true rfl⟩) (m_preV (ci := 6) hC hH F_2 rfl) rfl rfl hl.1 rfl (lv_room (Nat.le_of_ble_eq_true rfl)) dX6_link_4 ⟨Nat.le_of_ble_eq_true rfl, Nat.le_of_ble_eq_true rfl⟩) (fun r_3 rho_5 f_4 H locs hw hH => ?_)
  obtain ⟨hu, hr_3⟩ := hw
  have hu : f_4 = f := hu
  rw [hu] at hH
  try dsimp only at hr_3
  refine lv_if_eq (tgt := 24) hx hb dX6_link_7 (by decide) (fun c_6 => ?_) (fun c_6 => ?_)
  · skip
    have ic_6 : (r_3.toInt : Int) = 0 := ic_eq rfl kI_0 c_6
    have nv_ : ¬ (0 ≤ o.toInt ∧ o.toInt < n ∧ 0 ≤ j.toInt ∧ j.toInt < 8 ∧ srt (T o.toNatClampNeg) j.toNatClampNeg = 2) := fun z_ => (hr_3.resolve_left (fun y_ => by omega)).2 (by have := kI_1; exact ⟨z_.1, z_.2.1, z_.2.2.1, z_.2.2.2.1, by omega⟩)
    refine lv_iconst (v := (-1)) hx hb dX6_link_24 (by decide) ?_
    exact m_iret (v := (-1)) hx hb hr hlk hC hH (fun _ => (0, 0)) ⟨hfr, Or.inl ⟨(fun z_ => nv_ z_.1), kI_m1, σ, rfl, rfl, rfl, ⟨_, _, hM, hR, hac_1, hth_1⟩⟩⟩ (Nat.le_of_ble_eq_true rfl) (Nat.le_of_ble_eq_true rfl) dX6_link_25
  · skip
    have ic_6 : (r_3.toInt : Int) ≠ 0 := ic_ne rfl kI_0 c_6
    have hv_ : (0 ≤ o.toInt ∧ o.toInt < n ∧ 0 ≤ j.toInt ∧ j.toInt < 8 ∧ srt (T o.toNatClampNeg) j.toNatClampNeg = 2) := by obtain ⟨-, z1_, z2_, z3_, z4_, z5_⟩ := hr_3.resolve_right (fun z_ => by omega); have := kI_1; exact ⟨z1_, z2_, z3_, z4_, by omega⟩
    obtain ⟨v1_, v2_, v3_, v4_, v5_⟩ := hv_
    have co_ := ic_clN (rfl : o.toInt = _) (by omega)
    have cj_ := ic_clN (rfl : j.toInt = _) (by omega)
    refine lv_iload_n hx hb dX6_link_10 rfl (lv_at hl 3 rfl) ?_
    refine lv_bipush (v := (-3)) hx hb dX6_link_11 (by decide) ?_
    refine lv_icmp_eq (tgt := 26) hx hb dX6_link_13 (by decide) (fun c_7 => ?_) (fun c_7 => ?_)
    · skip
      have ic_7 : (p_.toInt : Int) = (-3) := ic_eq rfl kI_m3 c_7
      have okp_ : p_.toInt = -3 ∨ (0 ≤ p_.toInt ∧ p_.toInt < n) := by omega
      refine lv_aload_n hx hb dX6_link_26 rfl (lv_at hl 0 rfl) ?_
      refine lv_aload_n hx hb dX6_link_27 rfl (lv_at hl 0 rfl) ?_
      refine m_get (ci := 6) (v := .int (nI hg)) (C := RX6) (T := TX6) (N := 30) hx hb hC hH hts in_X6_link_X6 hown F_2 rfl 2 (by decide) (hts (.fieldLink RX6 104 "LazyStateModel" "height" "I") (by decide +kernel)) rfl dX6_link_28 ?_
      refine lv_bipush (v := 41) hx hb dX6_link_31 (by decide) ?_
      refine m_gov hH (va_runV (As := [.int (nI hg), .int 41]) (rest := []) ⟨hx, hb, hml, hown, hts⟩ (c_X6_copyAll l G h n (nI hg, fe, ca, (gfS σ), wh, nI ((trS σ).length), nI wl.length, nI ac, nI th, sx) I_1 J_1 f hM (nI hg) 41 (by have := hgI_1; have := kI_41; omega) (by have := hgI_1; have := kI_41; omega)) (cwV 2 hts gX6_link_X6_copyAll rfl rfl rfl (by decide +kernel) ⟨Nat.le_of_ble_eq_true rfl, Nat.le_of_ble_eq_true rfl⟩) (m_preV (ci := 6) hC hH F_2 rfl) rfl rfl hl.1 rfl (lv_room (Nat.le_of_ble_eq_true rfl)) dX6_link_33 ⟨Nat.le_of_ble_eq_true rfl, Nat.le_of_ble_eq_true rfl⟩) (fun rho_10 f_9 H locs hw hH => ?_)
      obtain ⟨hfr1, hM⟩ := hw
      have hfr1 : frM h f f_9 := hfr1
      have hfr := hfr.trans hfr1
      have hM : MEM G h n (nI hg, fe, ca, (gfS σ), wh, nI ((trS σ).length), nI wl.length, nI ac, nI th, sx) (va_up (va_up I_1 4 (va_cpy (I_1 4) (I_1 4) (192 * (nI hg).toNatClampNeg) (192 * (41 : Int32).toNatClampNeg) 192)) 5 (va_cpy (I_1 5) (I_1 5) (1536 * (nI hg).toNatClampNeg) (1536 * (41 : Int32).toNatClampNeg) (8 * 192))) (va_up J_1 3 (va_cpy (J_1 3) (J_1 3) (192 * (nI hg).toNatClampNeg) (192 * (41 : Int32).toNatClampNeg) 192)) f_9 := hM
      rw [show (nI hg).toNatClampNeg = hg from (nI_cl (by omega))] at hM
      rw [show (41 : Int32).toNatClampNeg = 41 from rfl] at hM
      have hR := hR.toAT
      have hI : FM G h n T z A hg ver cq fe tms ca wl wh ac th sx (sAll σ (ver hg)) f_9 := ⟨_, _, hM, hR, hac_1, hth_1⟩
      obtain ⟨I_11, J_11, hM, hR, hac_11, hth_11⟩ := hI
      have hg_11 := hR.hg40
      have n24_11 := hR.n24
      have tl_11 := len_b hR.ok.2.2.1
      have wl_11 := hR.wl192
      have hgI_11 : (nI hg).toInt = ((hg : Nat) : Int) := nI_toInt (by omega)
      have tmI_11 : (nI ((trS (sAll σ (ver hg))).length)).toInt = (((trS (sAll σ (ver hg))).length : Nat) : Int) := nI_toInt (by omega)
      have wmI_11 : (nI wl.length).toInt = ((wl.length : Nat) : Int) := nI_toInt (by omega)
      have acI_11 : (nI ac).toInt = ((ac : Nat) : Int) := nI_toInt (by omega)
      have thI_11 : (nI th).toInt = ((th : Nat) : Int) := nI_toInt (by omega)
      have nIn_11 : (nI n).toInt = ((n : Nat) : Int) := nI_toInt (by omega)
      refine lv_aload_n hx hb dX6_link_36 rfl (lv_at hl 0 rfl) ?_
      have F_12 : f_9 (h 0) = some (.inr (6, [.int (nI n), .ref (h 1), .int (nI hg), .ref (h 3), .ref (h 4), .ref (h 5), .ref (h 6), .int fe, .ref (h 8), .ref (h 9), .ref (h 10), .ref (h 11), .ref (h 12), .ref (h 13), .ref (h 14), .ref (h 15), .int ca, .long (gfS (sAll σ (ver hg))), .int wh, .int (nI ((trS (sAll σ (ver hg))).length)), .ref (h 20), .ref (h 21), .int (nI wl.length), .ref (h 23), .ref (h 24), .int (nI ac), .ref (h 26), .ref (h 27), .int (nI th), .int sx])) := hM.1
      refine m_get (ci := 6) (v := .ref (h 3)) (C := RX6) (T := TX6) (N := 30) hx hb hC hH hts in_X6_link_X6 hown F_12 rfl 3 (by decide) (hts (.fieldLink RX6 13 "LazyStateModel" "numbers" "[J") (by decide +kernel)) rfl dX6_link_37 ?_
      refine lv_sipush (v := 7872) hx hb dX6_link_40 (by decide) ?_
      refine lv_bipush (v := 8) hx hb dX6_link_43 (by decide) ?_
      refine lv_iload_n hx hb dX6_link_45 rfl (lv_at hl 1 rfl) ?_
      refine lv_imul hx hb dX6_link_46 ?_
      refine lv_topi (fun x_13 ex_13 => ?_)
      have ix_13 : x_13.toInt = 8 * o.toInt := ic_mul ex_13 kI_8 rfl (by omega) (by omega)
      refine lv_iadd hx hb dX6_link_47 ?_
      refine lv_topi (fun x_14 ex_14 => ?_)
      have ix_14 : x_14.toInt = 7872 + x_13.toInt := ic_add ex_14 kI_7872 rfl (by omega) (by omega)
      refine lv_iload_n hx hb dX6_link_48 rfl (lv_at hl 2 rfl) ?_
      refine lv_iadd hx hb dX6_link_49 ?_
      refine lv_topi (fun x_15 ex_15 => ?_)
      have ix_15 : x_15.toInt = x_14.toInt + j.toInt := ic_add ex_15 rfl rfl (by omega) (by omega)
      refine lv_iload_n hx hb dX6_link_50 rfl (lv_at hl 3 rfl) ?_
      refine lv_i2l hx hb dX6_link_51 rfl ?_
      refine lv_topl (fun y_16 ey_16 => ?_)
      have iy_16 : y_16.toInt = p_.toInt := lc_i2l ey_16 rfl
      have gy_16 := ic_rng p_
      have hg_17 : f_9 (h 3) = some (.inl (gk G 1, 8064, .inr (.inl (J_11 3)))) := hM.2.2.1 3 (by decide) rfl
      refine m_last hx hb hC hH hg_17 (vp_in_iff.mpr ⟨by omega, by omega⟩) dX6_link_52 (fun H locs hH => ?_)
      obtain ⟨f_18, ef_18⟩ : ∃ zz_ : mF, zz_ = va_up f_9 (h 3) (some (.inl (gk G 1, 8064, .inr (.inl (vp_updL (J_11 3) x_15.toNatClampNeg y_16))))) := ⟨_, rfl⟩
      rw [← ef_18] at hH
      have hM : MEM G h n (nI hg, fe, ca, (gfS (sAll σ (ver hg))), wh, nI ((trS (sAll σ (ver hg))).length), nI wl.length, nI ac, nI th, sx) I_11 (va_up J_11 3 (vp_updL (J_11 3) x_15.toNatClampNeg y_16)) f_18 := hM.setJ 3 (by decide) rfl ef_18
      have hfr := hfr.up 3 (by decide) ef_18
      have nn_19 : x_15.toNatClampNeg = 192 * 41 + 8 * o.toNatClampNeg + j.toNatClampNeg := by have := ic_clN (rfl : x_15.toInt = _) (by omega); omega
      rw [nn_19] at hM
      subst ey_16
      have okv_ := hR.okV hg (Nat.le_refl _) o.toNatClampNeg (by omega)
      have hR := hR.nu (o := o.toNatClampNeg) (j := j.toNatClampNeg) (v := p_.toInt64) (by omega) (by omega) (by rw [v5_]; decide) (okBd_C okv_ (by rw [v5_]; decide) (by rw [v5_]; decide) (fun _ => by have := iy_16; omega))
      have hI : FM G h n T z A hg ver cq fe tms ca wl wh ac th sx (sBd (sAll σ (ver hg)) o.toNatClampNeg (setC (ver hg o.toNatClampNeg) j.toNatClampNeg p_.toInt64)) f_18 := ⟨_, _, hM, hR, hac_11, hth_11⟩
      obtain ⟨I_20, J_20, hM, hR, hac_20, hth_20⟩ := hI
      have hg_20 := hR.hg40
      have n24_20 := hR.n24
      have tl_20 := len_b hR.ok.2.2.1
      have wl_20 := hR.wl192
      have hgI_20 : (nI hg).toInt = ((hg : Nat) : Int) := nI_toInt (by omega)
      have tmI_20 : (nI ((trS (sBd (sAll σ (ver hg)) o.toNatClampNeg (setC (ver hg o.toNatClampNeg) j.toNatClampNeg p_.toInt64))).length)).toInt = (((trS (sBd (sAll σ (ver hg)) o.toNatClampNeg (setC (ver hg o.toNatClampNeg) j.toNatClampNeg p_.toInt64))).length : Nat) : Int) := nI_toInt (by omega)
      have wmI_20 : (nI wl.length).toInt = ((wl.length : Nat) : Int) := nI_toInt (by omega)
      have acI_20 : (nI ac).toInt = ((ac : Nat) : Int) := nI_toInt (by omega)
      have thI_20 : (nI th).toInt = ((th : Nat) : Int) := nI_toInt (by omega)
      have nIn_20 : (nI n).toInt = ((n : Nat) : Int) := nI_toInt (by omega)
      refine lv_aload_n hx hb dX6_link_53 rfl (lv_at hl 0 rfl) ?_
      refine lv_bipush (v := 8) hx hb dX6_link_54 (by decide) ?_
      refine lv_iload_n hx hb dX6_link_56 rfl (lv_at hl 1 rfl) ?_
      refine lv_imul hx hb dX6_link_57 ?_
      refine lv_topi (fun x_21 ex_21 => ?_)
      have ix_21 : x_21.toInt = 8 * o.toInt := ic_mul ex_21 kI_8 rfl (by omega) (by omega)
      refine lv_iload_n hx hb dX6_link_58 rfl (lv_at hl 2 rfl) ?_
      refine lv_iadd hx hb dX6_link_59 ?_
      refine lv_topi (fun x_22 ex_22 => ?_)
      have ix_22 : x_22.toInt = x_21.toInt + j.toInt := ic_add ex_22 rfl rfl (by omega) (by omega)
      have F_23 : f_18 (h 0) = some (.inr (6, [.int (nI n), .ref (h 1), .int (nI hg), .ref (h 3), .ref (h 4), .ref (h 5), .ref (h 6), .int fe, .ref (h 8), .ref (h 9), .ref (h 10), .ref (h 11), .ref (h 12), .ref (h 13), .ref (h 14), .ref (h 15), .int ca, .long (gfS (sBd (sAll σ (ver hg)) o.toNatClampNeg (setC (ver hg o.toNatClampNeg) j.toNatClampNeg p_.toInt64))), .int wh, .int (nI ((trS (sBd (sAll σ (ver hg)) o.toNatClampNeg (setC (ver hg o.toNatClampNeg) j.toNatClampNeg p_.toInt64))).length)), .ref (h 20), .ref (h 21), .int (nI wl.length), .ref (h 23), .ref (h 24), .int (nI ac), .ref (h 26), .ref (h 27), .int (nI th), .int sx])) := hM.1
      have hI : FM G h n T z A hg ver cq fe tms ca wl wh ac th sx (sBd (sAll σ (ver hg)) o.toNatClampNeg (setC (ver hg o.toNatClampNeg) j.toNatClampNeg p_.toInt64)) f_18 := ⟨_, _, hM, hR, hac_20, hth_20⟩
      refine m_goi hH (va_runV (As := [.int x_22]) (rest := []) ⟨hx, hb, hml, hown, hts⟩ (c_X6_changed l G h n T z A hg ver cq fe tms ca wl wh ac th sx (sBd (sAll σ (ver hg)) o.toNatClampNeg (setC (ver hg o.toNatClampNeg) j.toNatClampNeg p_.toInt64)) f_18 hI x_22 (8 * o.toNatClampNeg + j.toNatClampNeg) (by omega) (by omega)) (cwV 1 hts gX6_link_X6_changed rfl rfl rfl (by decide +kernel) ⟨Nat.le_of_ble_eq_true rfl, Nat.le_of_ble_eq_true rfl⟩) (m_preV (ci := 6) hC hH F_23 rfl) rfl rfl hl.1 rfl (lv_room (Nat.le_of_ble_eq_true rfl)) dX6_link_60 ⟨Nat.le_of_ble_eq_true rfl, Nat.le_of_ble_eq_true rfl⟩) (fun r_24 rho_26 f_25 H locs hw hH => ?_)
      have hch_ := hw
      try dsimp only at hch_
      exact m_iret (v := r_24) hx hb hr hlk hC hH (fun _ => (0, 0)) (by rcases hch_ with ⟨d_, u_, r_⟩ | ⟨d_, e_, u_, r_⟩ | ⟨d_, e_, r_, fr_, I_⟩; (rw [u_]; exact ⟨hfr, Or.inr (Or.inl ⟨⟨⟨v1_, v2_, v3_, v4_, v5_⟩, okp_⟩, d_, r_, ⟨(sBd (sAll σ (ver hg)) o.toNatClampNeg (setC (ver hg o.toNatClampNeg) j.toNatClampNeg p_.toInt64)), rfl, rfl, rfl, hI⟩⟩)⟩); (rw [u_]; exact ⟨hfr, Or.inr (Or.inr (Or.inl ⟨⟨⟨v1_, v2_, v3_, v4_, v5_⟩, okp_⟩, d_, e_, r_, ⟨(sBd (sAll σ (ver hg)) o.toNatClampNeg (setC (ver hg o.toNatClampNeg) j.toNatClampNeg p_.toInt64)), rfl, rfl, rfl, hI⟩⟩))⟩); exact ⟨hfr.trans fr_, Or.inr (Or.inr (Or.inr ⟨⟨⟨v1_, v2_, v3_, v4_, v5_⟩, okp_⟩, d_, e_, r_, ⟨(sBd (sAll σ (ver hg)) o.toNatClampNeg (setC (ver hg o.toNatClampNeg) j.toNatClampNeg p_.toInt64)), rfl, rfl, rfl, I_⟩⟩))⟩) (Nat.le_of_ble_eq_true rfl) (Nat.le_of_ble_eq_true rfl) dX6_link_63
    · skip
      have ic_7 : (p_.toInt : Int) ≠ (-3) := ic_ne rfl kI_m3 c_7
      refine lv_aload_n hx hb dX6_link_16 rfl (lv_at hl 0 rfl) ?_
      refine lv_iload_n hx hb dX6_link_17 rfl (lv_at hl 3 rfl) ?_
      have hI : FM G h n T z A hg ver cq fe tms ca wl wh ac th sx σ f := ⟨_, _, hM, hR, hac_1, hth_1⟩
      refine m_goi hH (va_runV (As := [.int p_]) (rest := []) ⟨hx, hb, hml, hown, hts⟩ (c_X6_isObject l G h n T z A hg ver cq fe tms ca wl wh ac th sx σ f hI p_) (cwV 1 hts gX6_link_X6_isObject rfl rfl rfl (by decide +kernel) ⟨Nat.le_of_ble_eq_true rfl, Nat.le_of_ble_eq_true rfl⟩) (m_preV (ci := 6) hC hH F_2 rfl) rfl rfl hl.1 rfl (lv_room (Nat.le_of_ble_eq_true rfl)) dX6_link_18 ⟨Nat.le_of_ble_eq_true rfl, Nat.le_of_ble_eq_true rfl⟩) (fun r_27 rho_29 f_28 H locs hw hH => ?_)
      obtain ⟨hu, hr_27⟩ := hw
      have hu : f_28 = f := hu
      rw [hu] at hH
      try dsimp only at hr_27
      refine lv_if_ne (tgt := 26) hx hb dX6_link_21 (by decide) (fun c_30 => ?_) (fun c_30 => ?_)
      · skip
        have ic_30 : (r_27.toInt : Int) ≠ 0 := ic_ne rfl kI_0 c_30
        have okp_ : p_.toInt = -3 ∨ (0 ≤ p_.toInt ∧ p_.toInt < n) := by omega
        refine lv_aload_n hx hb dX6_link_26 rfl (lv_at hl 0 rfl) ?_
        refine lv_aload_n hx hb dX6_link_27 rfl (lv_at hl 0 rfl) ?_
        refine m_get (ci := 6) (v := .int (nI hg)) (C := RX6) (T := TX6) (N := 30) hx hb hC hH hts in_X6_link_X6 hown F_2 rfl 2 (by decide) (hts (.fieldLink RX6 104 "LazyStateModel" "height" "I") (by decide +kernel)) rfl dX6_link_28 ?_
        refine lv_bipush (v := 41) hx hb dX6_link_31 (by decide) ?_
        refine m_gov hH (va_runV (As := [.int (nI hg), .int 41]) (rest := []) ⟨hx, hb, hml, hown, hts⟩ (c_X6_copyAll l G h n (nI hg, fe, ca, (gfS σ), wh, nI ((trS σ).length), nI wl.length, nI ac, nI th, sx) I_1 J_1 f hM (nI hg) 41 (by have := hgI_1; have := kI_41; omega) (by have := hgI_1; have := kI_41; omega)) (cwV 2 hts gX6_link_X6_copyAll rfl rfl rfl (by decide +kernel) ⟨Nat.le_of_ble_eq_true rfl, Nat.le_of_ble_eq_true rfl⟩) (m_preV (ci := 6) hC hH F_2 rfl) rfl rfl hl.1 rfl (lv_room (Nat.le_of_ble_eq_true rfl)) dX6_link_33 ⟨Nat.le_of_ble_eq_true rfl, Nat.le_of_ble_eq_true rfl⟩) (fun rho_33 f_32 H locs hw hH => ?_)
        obtain ⟨hfr1, hM⟩ := hw
        have hfr1 : frM h f f_32 := hfr1
        have hfr := hfr.trans hfr1
        have hM : MEM G h n (nI hg, fe, ca, (gfS σ), wh, nI ((trS σ).length), nI wl.length, nI ac, nI th, sx) (va_up (va_up I_1 4 (va_cpy (I_1 4) (I_1 4) (192 * (nI hg).toNatClampNeg) (192 * (41 : Int32).toNatClampNeg) 192)) 5 (va_cpy (I_1 5) (I_1 5) (1536 * (nI hg).toNatClampNeg) (1536 * (41 : Int32).toNatClampNeg) (8 * 192))) (va_up J_1 3 (va_cpy (J_1 3) (J_1 3) (192 * (nI hg).toNatClampNeg) (192 * (41 : Int32).toNatClampNeg) 192)) f_32 := hM
        rw [show (nI hg).toNatClampNeg = hg from (nI_cl (by omega))] at hM
        rw [show (41 : Int32).toNatClampNeg = 41 from rfl] at hM
        have hR := hR.toAT
        have hI : FM G h n T z A hg ver cq fe tms ca wl wh ac th sx (sAll σ (ver hg)) f_32 := ⟨_, _, hM, hR, hac_1, hth_1⟩
        obtain ⟨I_34, J_34, hM, hR, hac_34, hth_34⟩ := hI
        have hg_34 := hR.hg40
        have n24_34 := hR.n24
        have tl_34 := len_b hR.ok.2.2.1
        have wl_34 := hR.wl192
        have hgI_34 : (nI hg).toInt = ((hg : Nat) : Int) := nI_toInt (by omega)
        have tmI_34 : (nI ((trS (sAll σ (ver hg))).length)).toInt = (((trS (sAll σ (ver hg))).length : Nat) : Int) := nI_toInt (by omega)
        have wmI_34 : (nI wl.length).toInt = ((wl.length : Nat) : Int) := nI_toInt (by omega)
        have acI_34 : (nI ac).toInt = ((ac : Nat) : Int) := nI_toInt (by omega)
        have thI_34 : (nI th).toInt = ((th : Nat) : Int) := nI_toInt (by omega)
        have nIn_34 : (nI n).toInt = ((n : Nat) : Int) := nI_toInt (by omega)
        refine lv_aload_n hx hb dX6_link_36 rfl (lv_at hl 0 rfl) ?_
        have F_35 : f_32 (h 0) = some (.inr (6, [.int (nI n), .ref (h 1), .int (nI hg), .ref (h 3), .ref (h 4), .ref (h 5), .ref (h 6), .int fe, .ref (h 8), .ref (h 9), .ref (h 10), .ref (h 11), .ref (h 12), .ref (h 13), .ref (h 14), .ref (h 15), .int ca, .long (gfS (sAll σ (ver hg))), .int wh, .int (nI ((trS (sAll σ (ver hg))).length)), .ref (h 20), .ref (h 21), .int (nI wl.length), .ref (h 23), .ref (h 24), .int (nI ac), .ref (h 26), .ref (h 27), .int (nI th), .int sx])) := hM.1
        refine m_get (ci := 6) (v := .ref (h 3)) (C := RX6) (T := TX6) (N := 30) hx hb hC hH hts in_X6_link_X6 hown F_35 rfl 3 (by decide) (hts (.fieldLink RX6 13 "LazyStateModel" "numbers" "[J") (by decide +kernel)) rfl dX6_link_37 ?_
        refine lv_sipush (v := 7872) hx hb dX6_link_40 (by decide) ?_
        refine lv_bipush (v := 8) hx hb dX6_link_43 (by decide) ?_
        refine lv_iload_n hx hb dX6_link_45 rfl (lv_at hl 1 rfl) ?_
        refine lv_imul hx hb dX6_link_46 ?_
        refine lv_topi (fun x_36 ex_36 => ?_)
        have ix_36 : x_36.toInt = 8 * o.toInt := ic_mul ex_36 kI_8 rfl (by omega) (by omega)
        refine lv_iadd hx hb dX6_link_47 ?_
        refine lv_topi (fun x_37 ex_37 => ?_)
        have ix_37 : x_37.toInt = 7872 + x_36.toInt := ic_add ex_37 kI_7872 rfl (by omega) (by omega)
        refine lv_iload_n hx hb dX6_link_48 rfl (lv_at hl 2 rfl) ?_
        refine lv_iadd hx hb dX6_link_49 ?_
        refine lv_topi (fun x_38 ex_38 => ?_)
        have ix_38 : x_38.toInt = x_37.toInt + j.toInt := ic_add ex_38 rfl rfl (by omega) (by omega)
        refine lv_iload_n hx hb dX6_link_50 rfl (lv_at hl 3 rfl) ?_
        refine lv_i2l hx hb dX6_link_51 rfl ?_
        refine lv_topl (fun y_39 ey_39 => ?_)
        have iy_39 : y_39.toInt = p_.toInt := lc_i2l ey_39 rfl
        have gy_39 := ic_rng p_
        have hg_40 : f_32 (h 3) = some (.inl (gk G 1, 8064, .inr (.inl (J_34 3)))) := hM.2.2.1 3 (by decide) rfl
        refine m_last hx hb hC hH hg_40 (vp_in_iff.mpr ⟨by omega, by omega⟩) dX6_link_52 (fun H locs hH => ?_)
        obtain ⟨f_41, ef_41⟩ : ∃ zz_ : mF, zz_ = va_up f_32 (h 3) (some (.inl (gk G 1, 8064, .inr (.inl (vp_updL (J_34 3) x_38.toNatClampNeg y_39))))) := ⟨_, rfl⟩
        rw [← ef_41] at hH
        have hM : MEM G h n (nI hg, fe, ca, (gfS (sAll σ (ver hg))), wh, nI ((trS (sAll σ (ver hg))).length), nI wl.length, nI ac, nI th, sx) I_34 (va_up J_34 3 (vp_updL (J_34 3) x_38.toNatClampNeg y_39)) f_41 := hM.setJ 3 (by decide) rfl ef_41
        have hfr := hfr.up 3 (by decide) ef_41
        have nn_42 : x_38.toNatClampNeg = 192 * 41 + 8 * o.toNatClampNeg + j.toNatClampNeg := by have := ic_clN (rfl : x_38.toInt = _) (by omega); omega
        rw [nn_42] at hM
        subst ey_39
        have okv_ := hR.okV hg (Nat.le_refl _) o.toNatClampNeg (by omega)
        have hR := hR.nu (o := o.toNatClampNeg) (j := j.toNatClampNeg) (v := p_.toInt64) (by omega) (by omega) (by rw [v5_]; decide) (okBd_C okv_ (by rw [v5_]; decide) (by rw [v5_]; decide) (fun _ => by have := iy_39; omega))
        have hI : FM G h n T z A hg ver cq fe tms ca wl wh ac th sx (sBd (sAll σ (ver hg)) o.toNatClampNeg (setC (ver hg o.toNatClampNeg) j.toNatClampNeg p_.toInt64)) f_41 := ⟨_, _, hM, hR, hac_34, hth_34⟩
        obtain ⟨I_43, J_43, hM, hR, hac_43, hth_43⟩ := hI
        have hg_43 := hR.hg40
        have n24_43 := hR.n24
        have tl_43 := len_b hR.ok.2.2.1
        have wl_43 := hR.wl192
        have hgI_43 : (nI hg).toInt = ((hg : Nat) : Int) := nI_toInt (by omega)
        have tmI_43 : (nI ((trS (sBd (sAll σ (ver hg)) o.toNatClampNeg (setC (ver hg o.toNatClampNeg) j.toNatClampNeg p_.toInt64))).length)).toInt = (((trS (sBd (sAll σ (ver hg)) o.toNatClampNeg (setC (ver hg o.toNatClampNeg) j.toNatClampNeg p_.toInt64))).length : Nat) : Int) := nI_toInt (by omega)
        have wmI_43 : (nI wl.length).toInt = ((wl.length : Nat) : Int) := nI_toInt (by omega)
        have acI_43 : (nI ac).toInt = ((ac : Nat) : Int) := nI_toInt (by omega)
        have thI_43 : (nI th).toInt = ((th : Nat) : Int) := nI_toInt (by omega)
        have nIn_43 : (nI n).toInt = ((n : Nat) : Int) := nI_toInt (by omega)
        refine lv_aload_n hx hb dX6_link_53 rfl (lv_at hl 0 rfl) ?_
        refine lv_bipush (v := 8) hx hb dX6_link_54 (by decide) ?_
        refine lv_iload_n hx hb dX6_link_56 rfl (lv_at hl 1 rfl) ?_
        refine lv_imul hx hb dX6_link_57 ?_
        refine lv_topi (fun x_44 ex_44 => ?_)
        have ix_44 : x_44.toInt = 8 * o.toInt := ic_mul ex_44 kI_8 rfl (by omega) (by omega)
        refine lv_iload_n hx hb dX6_link_58 rfl (lv_at hl 2 rfl) ?_
        refine lv_iadd hx hb dX6_link_59 ?_
        refine lv_topi (fun x_45 ex_45 => ?_)
        have ix_45 : x_45.toInt = x_44.toInt + j.toInt := ic_add ex_45 rfl rfl (by omega) (by omega)
        have F_46 : f_41 (h 0) = some (.inr (6, [.int (nI n), .ref (h 1), .int (nI hg), .ref (h 3), .ref (h 4), .ref (h 5), .ref (h 6), .int fe, .ref (h 8), .ref (h 9), .ref (h 10), .ref (h 11), .ref (h 12), .ref (h 13), .ref (h 14), .ref (h 15), .int ca, .long (gfS (sBd (sAll σ (ver hg)) o.toNatClampNeg (setC (ver hg o.toNatClampNeg) j.toNatClampNeg p_.toInt64))), .int wh, .int (nI ((trS (sBd (sAll σ (ver hg)) o.toNatClampNeg (setC (ver hg o.toNatClampNeg) j.toNatClampNeg p_.toInt64))).length)), .ref (h 20), .ref (h 21), .int (nI wl.length), .ref (h 23), .ref (h 24), .int (nI ac), .ref (h 26), .ref (h 27), .int (nI th), .int sx])) := hM.1
        have hI : FM G h n T z A hg ver cq fe tms ca wl wh ac th sx (sBd (sAll σ (ver hg)) o.toNatClampNeg (setC (ver hg o.toNatClampNeg) j.toNatClampNeg p_.toInt64)) f_41 := ⟨_, _, hM, hR, hac_43, hth_43⟩
        refine m_goi hH (va_runV (As := [.int x_45]) (rest := []) ⟨hx, hb, hml, hown, hts⟩ (c_X6_changed l G h n T z A hg ver cq fe tms ca wl wh ac th sx (sBd (sAll σ (ver hg)) o.toNatClampNeg (setC (ver hg o.toNatClampNeg) j.toNatClampNeg p_.toInt64)) f_41 hI x_45 (8 * o.toNatClampNeg + j.toNatClampNeg) (by omega) (by omega)) (cwV 1 hts gX6_link_X6_changed rfl rfl rfl (by decide +kernel) ⟨Nat.le_of_ble_eq_true rfl, Nat.le_of_ble_eq_true rfl⟩) (m_preV (ci := 6) hC hH F_46 rfl) rfl rfl hl.1 rfl (lv_room (Nat.le_of_ble_eq_true rfl)) dX6_link_60 ⟨Nat.le_of_ble_eq_true rfl, Nat.le_of_ble_eq_true rfl⟩) (fun r_47 rho_49 f_48 H locs hw hH => ?_)
        have hch_ := hw
        try dsimp only at hch_
        exact m_iret (v := r_47) hx hb hr hlk hC hH (fun _ => (0, 0)) (by rcases hch_ with ⟨d_, u_, r_⟩ | ⟨d_, e_, u_, r_⟩ | ⟨d_, e_, r_, fr_, I_⟩; (rw [u_]; exact ⟨hfr, Or.inr (Or.inl ⟨⟨⟨v1_, v2_, v3_, v4_, v5_⟩, okp_⟩, d_, r_, ⟨(sBd (sAll σ (ver hg)) o.toNatClampNeg (setC (ver hg o.toNatClampNeg) j.toNatClampNeg p_.toInt64)), rfl, rfl, rfl, hI⟩⟩)⟩); (rw [u_]; exact ⟨hfr, Or.inr (Or.inr (Or.inl ⟨⟨⟨v1_, v2_, v3_, v4_, v5_⟩, okp_⟩, d_, e_, r_, ⟨(sBd (sAll σ (ver hg)) o.toNatClampNeg (setC (ver hg o.toNatClampNeg) j.toNatClampNeg p_.toInt64)), rfl, rfl, rfl, hI⟩⟩))⟩); exact ⟨hfr.trans fr_, Or.inr (Or.inr (Or.inr ⟨⟨⟨v1_, v2_, v3_, v4_, v5_⟩, okp_⟩, d_, e_, r_, ⟨(sBd (sAll σ (ver hg)) o.toNatClampNeg (setC (ver hg o.toNatClampNeg) j.toNatClampNeg p_.toInt64)), rfl, rfl, rfl, I_⟩⟩))⟩) (Nat.le_of_ble_eq_true rfl) (Nat.le_of_ble_eq_true rfl) dX6_link_63
      · skip
        have ic_30 : (r_27.toInt : Int) = 0 := ic_eq rfl kI_0 c_30
        refine lv_iconst (v := (-1)) hx hb dX6_link_24 (by decide) ?_
        exact m_iret (v := (-1)) hx hb hr hlk hC hH (fun _ => (0, 0)) ⟨hfr, Or.inl ⟨(fun z_ => by omega), kI_m1, σ, rfl, rfl, rfl, ⟨_, _, hM, hR, hac_1, hth_1⟩⟩⟩ (Nat.le_of_ble_eq_true rfl) (Nat.le_of_ble_eq_true rfl) dX6_link_25
set_option maxHeartbeats 4000000 in
set_option maxRecDepth 100000 in
theorem c_X6_row (l : Launch) (G : mG) (h : Nat → Nat) (n : Nat) (T z : Nat → Nat) (A : Nat → tA) (hg : Nat) (ver : Nat → Nat → tB) (cq : Nat → Bool) (fe : Int32) (tms : Nat → Int32) (ca : Int32) (wl : List Nat) (wh : Int32) (ac th : Nat) (sx : Int32) (σ : tS) (f : mF) (hI : FM G h n T z A hg ver cq fe tms ca wl wh ac th sx σ f) (o j q : Int32) : Met l yX6_row wsX6_row ({ frames := 4, cells := 0, slots := 0, locals := 91 }) (va_Pc [.ref (h 0), .int o, .int j, .int q] (mW G f)) (va_Qi (fun (r : Int32) (u : mS) => frM h f u.2 ∧ ((¬ ((0 ≤ o.toInt ∧ o.toInt < n ∧ 0 ≤ j.toInt ∧ j.toInt < 8 ∧ srt (T o.toNatClampNeg) j.toNatClampNeg = 3) ∧ (q.toInt = -3 ∨ (0 ≤ q.toInt ∧ q.toInt ≤ 8))) ∧ r.toInt = -1 ∧ (∃ s2 : tS, ldS s2 = ldS σ ∧ trS s2 = trS σ ∧ gfS s2 = gfS σ ∧ FM G h n T z A hg ver cq fe tms ca wl wh ac th sx s2 u.2)) ∨ (((0 ≤ o.toInt ∧ o.toInt < n ∧ 0 ≤ j.toInt ∧ j.toInt < 8 ∧ srt (T o.toNatClampNeg) j.toNatClampNeg = 3) ∧ (q.toInt = -3 ∨ (0 ≤ q.toInt ∧ q.toInt ≤ 8))) ∧ (dif n T (ver hg) (va_up (ver hg) o.toNatClampNeg (renB (ver hg o.toNatClampNeg) j.toNatClampNeg q.toInt64)) (8 * o.toNatClampNeg + j.toNatClampNeg)) = false ∧ r.toInt = hg ∧ (∃ s2 : tS, ldS s2 = ldS σ ∧ trS s2 = trS σ ∧ gfS s2 = gfS σ ∧ FM G h n T z A hg ver cq fe tms ca wl wh ac th sx s2 u.2)) ∨ (((0 ≤ o.toInt ∧ o.toInt < n ∧ 0 ≤ j.toInt ∧ j.toInt < 8 ∧ srt (T o.toNatClampNeg) j.toNatClampNeg = 3) ∧ (q.toInt = -3 ∨ (0 ≤ q.toInt ∧ q.toInt ≤ 8))) ∧ (dif n T (ver hg) (va_up (ver hg) o.toNatClampNeg (renB (ver hg o.toNatClampNeg) j.toNatClampNeg q.toInt64)) (8 * o.toNatClampNeg + j.toNatClampNeg)) = true ∧ hg = 40 ∧ r.toInt = -2 ∧ (∃ s2 : tS, ldS s2 = ldS σ ∧ trS s2 = trS σ ∧ gfS s2 = gfS σ ∧ FM G h n T z A hg ver cq fe tms ca wl wh ac th sx s2 u.2)) ∨ (((0 ≤ o.toInt ∧ o.toInt < n ∧ 0 ≤ j.toInt ∧ j.toInt < 8 ∧ srt (T o.toNatClampNeg) j.toNatClampNeg = 3) ∧ (q.toInt = -3 ∨ (0 ≤ q.toInt ∧ q.toInt ≤ 8))) ∧ (dif n T (ver hg) (va_up (ver hg) o.toNatClampNeg (renB (ver hg o.toNatClampNeg) j.toNatClampNeg q.toInt64)) (8 * o.toNatClampNeg + j.toNatClampNeg)) = true ∧ hg ≤ 39 ∧ r.toInt = hg + 1 ∧ (∃ s2 : tS, ldS s2 = ldS σ ∧ trS s2 = trS σ ∧ gfS s2 = gfS σ ∧ FM G h n T z A (hg + 1) (va_up ver (hg + 1) (va_up (ver hg) o.toNatClampNeg (renB (ver hg o.toNatClampNeg) j.toNatClampNeg q.toInt64))) (fun _ => false) fe tms ca wl wh ac th sx s2 u.2)))) (fun (u : mS) t => mW G u.2 t) (mA G)) 0 0 (mA G) := by
  refine mMet [.ref (h 0), .int o, .int j, .int q] (cc := cX6_row) (maxL := 4) (ret := (some .int)) (by decide) rfl (Nat.le_of_ble_eq_true rfl) ?_
  intro p e s m below meth c ls hx hb hr hml hts hown hlk hnm hC hH hl
  have hl : lv_has ls 4 [(0, .ref (h 0)), (1, .int o), (2, .int j), (3, .int q)] := hl
  have hI0_ := hI
  have hfr : frM h f f := frM.rf
  obtain ⟨I_1, J_1, hM, hR, hac_1, hth_1⟩ := hI
  have hg_1 := hR.hg40
  have n24_1 := hR.n24
  have tl_1 := len_b hR.ok.2.2.1
  have wl_1 := hR.wl192
  have hgI_1 : (nI hg).toInt = ((hg : Nat) : Int) := nI_toInt (by omega)
  have tmI_1 : (nI ((trS σ).length)).toInt = (((trS σ).length : Nat) : Int) := nI_toInt (by omega)
  have wmI_1 : (nI wl.length).toInt = ((wl.length : Nat) : Int) := nI_toInt (by omega)
  have acI_1 : (nI ac).toInt = ((ac : Nat) : Int) := nI_toInt (by omega)
  have thI_1 : (nI th).toInt = ((th : Nat) : Int) := nI_toInt (by omega)
  have nIn_1 : (nI n).toInt = ((n : Nat) : Int) := nI_toInt (by omega)
  refine lv_aload_n hx hb dX6_row_0 rfl (lv_at hl 0 rfl) ?_
  refine lv_iload_n hx hb dX6_row_1 rfl (lv_at hl 1 rfl) ?_
  refine lv_iload_n hx hb dX6_row_2 rfl (lv_at hl 2 rfl) ?_
  refine lv_iconst (v := 2) hx hb dX6_row_3 (by decide) ?_
  have F_2 : f (h 0) = some (.inr (6, [.int (nI n), .ref (h 1), .int (nI hg), .ref (h 3), .ref (h 4), .ref (h 5), .ref (h 6), .int fe, .ref (h 8), .ref (h 9), .ref (h 10), .ref (h 11), .ref (h 12), .ref (h 13), .ref (h 14), .ref (h 15), .int ca, .long (gfS σ), .int wh, .int (nI ((trS σ).length)), .ref (h 20), .ref (h 21), .int (nI wl.length), .ref (h 23), .ref (h 24), .int (nI ac), .ref (h 26), .ref (h 27), .int (nI th), .int sx])) := hM.1
  have hI : FM G h n T z A hg ver cq fe tms ca wl wh ac th sx σ f := ⟨_, _, hM, hR, hac_1, hth_1⟩
  refine m_goi hH (va_runV (As := [.int o, .int j, .int 2]) (rest := []) ⟨hx, hb, hml, hown, hts⟩ (c_X6_has l G h n T z A hg ver cq fe tms ca wl wh ac th sx σ f hI o j 2 (by have := kI_0; have := kI_1; have := kI_2; omega)) (cwV 3 hts gX6_row_X6_has rfl rfl rfl (by decide +kernel) ⟨Nat.le_of_ble_eq_true rfl, Nat.le_of_ble_eq_true rfl⟩) (m_preV (ci := 6) hC hH F_2 rfl) rfl rfl hl.1 rfl (lv_room (Nat.le_of_ble_eq_true rfl)) dX6_row_4 ⟨Nat.le_of_ble_eq_true rfl, Nat.le_of_ble_eq_true rfl⟩) (fun r_3 rho_5 f_4 H locs hw hH => ?_)
  obtain ⟨hu, hr_3⟩ := hw
  have hu : f_4 = f := hu
  rw [hu] at hH
  try dsimp only at hr_3
  refine lv_if_eq (tgt := 28) hx hb dX6_row_7 (by decide) (fun c_6 => ?_) (fun c_6 => ?_)
  · skip
    have ic_6 : (r_3.toInt : Int) = 0 := ic_eq rfl kI_0 c_6
    have nv_ : ¬ (0 ≤ o.toInt ∧ o.toInt < n ∧ 0 ≤ j.toInt ∧ j.toInt < 8 ∧ srt (T o.toNatClampNeg) j.toNatClampNeg = 3) := fun z_ => (hr_3.resolve_left (fun y_ => by omega)).2 (by have := kI_2; exact ⟨z_.1, z_.2.1, z_.2.2.1, z_.2.2.2.1, by omega⟩)
    refine lv_iconst (v := (-1)) hx hb dX6_row_28 (by decide) ?_
    exact m_iret (v := (-1)) hx hb hr hlk hC hH (fun _ => (0, 0)) ⟨hfr, Or.inl ⟨(fun z_ => nv_ z_.1), kI_m1, σ, rfl, rfl, rfl, ⟨_, _, hM, hR, hac_1, hth_1⟩⟩⟩ (Nat.le_of_ble_eq_true rfl) (Nat.le_of_ble_eq_true rfl) dX6_row_29
  · skip
    have ic_6 : (r_3.toInt : Int) ≠ 0 := ic_ne rfl kI_0 c_6
    have hv_ : (0 ≤ o.toInt ∧ o.toInt < n ∧ 0 ≤ j.toInt ∧ j.toInt < 8 ∧ srt (T o.toNatClampNeg) j.toNatClampNeg = 3) := by obtain ⟨-, z1_, z2_, z3_, z4_, z5_⟩ := hr_3.resolve_right (fun z_ => by omega); have := kI_2; exact ⟨z1_, z2_, z3_, z4_, by omega⟩
    obtain ⟨v1_, v2_, v3_, v4_, v5_⟩ := hv_
    have co_ := ic_clN (rfl : o.toInt = _) (by omega)
    have cj_ := ic_clN (rfl : j.toInt = _) (by omega)
    refine lv_iload_n hx hb dX6_row_10 rfl (lv_at hl 3 rfl) ?_
    refine lv_bipush (v := (-3)) hx hb dX6_row_11 (by decide) ?_
    refine lv_icmp_eq (tgt := 30) hx hb dX6_row_13 (by decide) (fun c_7 => ?_) (fun c_7 => ?_)
    · skip
      have ic_7 : (q.toInt : Int) = (-3) := ic_eq rfl kI_m3 c_7
      have okq_ : q.toInt = -3 ∨ (0 ≤ q.toInt ∧ q.toInt ≤ 8) := by have := kJ_0; have := kJ_8; omega
      refine lv_aload_n hx hb dX6_row_30 rfl (lv_at hl 0 rfl) ?_
      refine lv_aload_n hx hb dX6_row_31 rfl (lv_at hl 0 rfl) ?_
      refine m_get (ci := 6) (v := .int (nI hg)) (C := RX6) (T := TX6) (N := 30) hx hb hC hH hts in_X6_row_X6 hown F_2 rfl 2 (by decide) (hts (.fieldLink RX6 104 "LazyStateModel" "height" "I") (by decide +kernel)) rfl dX6_row_32 ?_
      refine lv_bipush (v := 41) hx hb dX6_row_35 (by decide) ?_
      refine m_gov hH (va_runV (As := [.int (nI hg), .int 41]) (rest := []) ⟨hx, hb, hml, hown, hts⟩ (c_X6_copyAll l G h n (nI hg, fe, ca, (gfS σ), wh, nI ((trS σ).length), nI wl.length, nI ac, nI th, sx) I_1 J_1 f hM (nI hg) 41 (by have := hgI_1; have := kI_41; omega) (by have := hgI_1; have := kI_41; omega)) (cwV 2 hts gX6_row_X6_copyAll rfl rfl rfl (by decide +kernel) ⟨Nat.le_of_ble_eq_true rfl, Nat.le_of_ble_eq_true rfl⟩) (m_preV (ci := 6) hC hH F_2 rfl) rfl rfl hl.1 rfl (lv_room (Nat.le_of_ble_eq_true rfl)) dX6_row_37 ⟨Nat.le_of_ble_eq_true rfl, Nat.le_of_ble_eq_true rfl⟩) (fun rho_10 f_9 H locs hw hH => ?_)
      obtain ⟨hfr1, hM⟩ := hw
      have hfr1 : frM h f f_9 := hfr1
      have hfr := hfr.trans hfr1
      have hM : MEM G h n (nI hg, fe, ca, (gfS σ), wh, nI ((trS σ).length), nI wl.length, nI ac, nI th, sx) (va_up (va_up I_1 4 (va_cpy (I_1 4) (I_1 4) (192 * (nI hg).toNatClampNeg) (192 * (41 : Int32).toNatClampNeg) 192)) 5 (va_cpy (I_1 5) (I_1 5) (1536 * (nI hg).toNatClampNeg) (1536 * (41 : Int32).toNatClampNeg) (8 * 192))) (va_up J_1 3 (va_cpy (J_1 3) (J_1 3) (192 * (nI hg).toNatClampNeg) (192 * (41 : Int32).toNatClampNeg) 192)) f_9 := hM
      rw [show (nI hg).toNatClampNeg = hg from (nI_cl (by omega))] at hM
      rw [show (41 : Int32).toNatClampNeg = 41 from rfl] at hM
      have hR := hR.toAT
      have hI : FM G h n T z A hg ver cq fe tms ca wl wh ac th sx (sAll σ (ver hg)) f_9 := ⟨_, _, hM, hR, hac_1, hth_1⟩
      obtain ⟨I_11, J_11, hM, hR, hac_11, hth_11⟩ := hI
      have hg_11 := hR.hg40
      have n24_11 := hR.n24
      have tl_11 := len_b hR.ok.2.2.1
      have wl_11 := hR.wl192
      have hgI_11 : (nI hg).toInt = ((hg : Nat) : Int) := nI_toInt (by omega)
      have tmI_11 : (nI ((trS (sAll σ (ver hg))).length)).toInt = (((trS (sAll σ (ver hg))).length : Nat) : Int) := nI_toInt (by omega)
      have wmI_11 : (nI wl.length).toInt = ((wl.length : Nat) : Int) := nI_toInt (by omega)
      have acI_11 : (nI ac).toInt = ((ac : Nat) : Int) := nI_toInt (by omega)
      have thI_11 : (nI th).toInt = ((th : Nat) : Int) := nI_toInt (by omega)
      have nIn_11 : (nI n).toInt = ((n : Nat) : Int) := nI_toInt (by omega)
      refine lv_aload_n hx hb dX6_row_40 rfl (lv_at hl 0 rfl) ?_
      refine lv_bipush (v := 8) hx hb dX6_row_41 (by decide) ?_
      refine lv_iload_n hx hb dX6_row_43 rfl (lv_at hl 1 rfl) ?_
      refine lv_imul hx hb dX6_row_44 ?_
      refine lv_topi (fun x_12 ex_12 => ?_)
      have ix_12 : x_12.toInt = 8 * o.toInt := ic_mul ex_12 kI_8 rfl (by omega) (by omega)
      refine lv_iload_n hx hb dX6_row_45 rfl (lv_at hl 2 rfl) ?_
      refine lv_iadd hx hb dX6_row_46 ?_
      refine lv_topi (fun x_13 ex_13 => ?_)
      have ix_13 : x_13.toInt = x_12.toInt + j.toInt := ic_add ex_13 rfl rfl (by omega) (by omega)
      refine lv_iload_n hx hb dX6_row_47 rfl (lv_at hl 3 rfl) ?_
      have F_14 : f_9 (h 0) = some (.inr (6, [.int (nI n), .ref (h 1), .int (nI hg), .ref (h 3), .ref (h 4), .ref (h 5), .ref (h 6), .int fe, .ref (h 8), .ref (h 9), .ref (h 10), .ref (h 11), .ref (h 12), .ref (h 13), .ref (h 14), .ref (h 15), .int ca, .long (gfS (sAll σ (ver hg))), .int wh, .int (nI ((trS (sAll σ (ver hg))).length)), .ref (h 20), .ref (h 21), .int (nI wl.length), .ref (h 23), .ref (h 24), .int (nI ac), .ref (h 26), .ref (h 27), .int (nI th), .int sx])) := hM.1
      refine m_gov hH (va_runV (As := [.int x_13, .int q]) (rest := []) ⟨hx, hb, hml, hown, hts⟩ (c_X6_newRow l G h n (nI hg, fe, ca, (gfS (sAll σ (ver hg))), wh, nI ((trS (sAll σ (ver hg))).length), nI wl.length, nI ac, nI th, sx) I_11 J_11 f_9 hM x_13 q (by omega)) (cwV 2 hts gX6_row_X6_newRow rfl rfl rfl (by decide +kernel) ⟨Nat.le_of_ble_eq_true rfl, Nat.le_of_ble_eq_true rfl⟩) (m_preV (ci := 6) hC hH F_14 rfl) rfl rfl hl.1 rfl (lv_room (Nat.le_of_ble_eq_true rfl)) dX6_row_48 ⟨Nat.le_of_ble_eq_true rfl, Nat.le_of_ble_eq_true rfl⟩) (fun rho_17 f_16 H locs hw hH => ?_)
      obtain ⟨hfr1, it_48, hM, hz_48⟩ := hw
      have hfr1 : frM h f_9 f_16 := hfr1
      have hfr := hfr.trans hfr1
      have hM : MEM G h n (nI hg, fe, ca, (gfS (sAll σ (ver hg))), wh, nI ((trS (sAll σ (ver hg))).length), nI wl.length, nI ac, nI th, sx) (va_up (va_up I_11 4 (upd (I_11 4) (7872 + x_13.toNatClampNeg) q)) 5 it_48) J_11 f_16 := hM
      have hz_48 : ∀ x, it_48 x = if 8 * (7872 + x_13.toNatClampNeg) ≤ x ∧ x < 8 * (7872 + x_13.toNatClampNeg) + 8 then 0 else (I_11 5) x := hz_48
      have nr_ : 7872 + x_13.toNatClampNeg = 192 * 41 + 8 * o.toNatClampNeg + j.toNatClampNeg := by have := ic_clN (rfl : x_13.toInt = _) (by omega); omega
      rw [nr_] at hM hz_48
      have hR := hR.row (o := o.toNatClampNeg) (j := j.toNatClampNeg) (v := q.toInt64) (by omega) (by omega) v5_ (by rw [Int32.toInt_toInt64]; omega) (congrArg (upd _ _) (Int32.toInt32_toInt64 q).symm) hz_48
      have hI : FM G h n T z A hg ver cq fe tms ca wl wh ac th sx (sBd (sAll σ (ver hg)) o.toNatClampNeg (renB (ver hg o.toNatClampNeg) j.toNatClampNeg q.toInt64)) f_16 := ⟨_, _, hM, hR, hac_11, hth_11⟩
      obtain ⟨I_18, J_18, hM, hR, hac_18, hth_18⟩ := hI
      have hg_18 := hR.hg40
      have n24_18 := hR.n24
      have tl_18 := len_b hR.ok.2.2.1
      have wl_18 := hR.wl192
      have hgI_18 : (nI hg).toInt = ((hg : Nat) : Int) := nI_toInt (by omega)
      have tmI_18 : (nI ((trS (sBd (sAll σ (ver hg)) o.toNatClampNeg (renB (ver hg o.toNatClampNeg) j.toNatClampNeg q.toInt64))).length)).toInt = (((trS (sBd (sAll σ (ver hg)) o.toNatClampNeg (renB (ver hg o.toNatClampNeg) j.toNatClampNeg q.toInt64))).length : Nat) : Int) := nI_toInt (by omega)
      have wmI_18 : (nI wl.length).toInt = ((wl.length : Nat) : Int) := nI_toInt (by omega)
      have acI_18 : (nI ac).toInt = ((ac : Nat) : Int) := nI_toInt (by omega)
      have thI_18 : (nI th).toInt = ((th : Nat) : Int) := nI_toInt (by omega)
      have nIn_18 : (nI n).toInt = ((n : Nat) : Int) := nI_toInt (by omega)
      refine lv_aload_n hx hb dX6_row_51 rfl (lv_at hl 0 rfl) ?_
      refine lv_bipush (v := 8) hx hb dX6_row_52 (by decide) ?_
      refine lv_iload_n hx hb dX6_row_54 rfl (lv_at hl 1 rfl) ?_
      refine lv_imul hx hb dX6_row_55 ?_
      refine lv_topi (fun x_19 ex_19 => ?_)
      have ix_19 : x_19.toInt = 8 * o.toInt := ic_mul ex_19 kI_8 rfl (by omega) (by omega)
      refine lv_iload_n hx hb dX6_row_56 rfl (lv_at hl 2 rfl) ?_
      refine lv_iadd hx hb dX6_row_57 ?_
      refine lv_topi (fun x_20 ex_20 => ?_)
      have ix_20 : x_20.toInt = x_19.toInt + j.toInt := ic_add ex_20 rfl rfl (by omega) (by omega)
      have F_21 : f_16 (h 0) = some (.inr (6, [.int (nI n), .ref (h 1), .int (nI hg), .ref (h 3), .ref (h 4), .ref (h 5), .ref (h 6), .int fe, .ref (h 8), .ref (h 9), .ref (h 10), .ref (h 11), .ref (h 12), .ref (h 13), .ref (h 14), .ref (h 15), .int ca, .long (gfS (sBd (sAll σ (ver hg)) o.toNatClampNeg (renB (ver hg o.toNatClampNeg) j.toNatClampNeg q.toInt64))), .int wh, .int (nI ((trS (sBd (sAll σ (ver hg)) o.toNatClampNeg (renB (ver hg o.toNatClampNeg) j.toNatClampNeg q.toInt64))).length)), .ref (h 20), .ref (h 21), .int (nI wl.length), .ref (h 23), .ref (h 24), .int (nI ac), .ref (h 26), .ref (h 27), .int (nI th), .int sx])) := hM.1
      have hI : FM G h n T z A hg ver cq fe tms ca wl wh ac th sx (sBd (sAll σ (ver hg)) o.toNatClampNeg (renB (ver hg o.toNatClampNeg) j.toNatClampNeg q.toInt64)) f_16 := ⟨_, _, hM, hR, hac_18, hth_18⟩
      refine m_goi hH (va_runV (As := [.int x_20]) (rest := []) ⟨hx, hb, hml, hown, hts⟩ (c_X6_changed l G h n T z A hg ver cq fe tms ca wl wh ac th sx (sBd (sAll σ (ver hg)) o.toNatClampNeg (renB (ver hg o.toNatClampNeg) j.toNatClampNeg q.toInt64)) f_16 hI x_20 (8 * o.toNatClampNeg + j.toNatClampNeg) (by omega) (by omega)) (cwV 1 hts gX6_row_X6_changed rfl rfl rfl (by decide +kernel) ⟨Nat.le_of_ble_eq_true rfl, Nat.le_of_ble_eq_true rfl⟩) (m_preV (ci := 6) hC hH F_21 rfl) rfl rfl hl.1 rfl (lv_room (Nat.le_of_ble_eq_true rfl)) dX6_row_58 ⟨Nat.le_of_ble_eq_true rfl, Nat.le_of_ble_eq_true rfl⟩) (fun r_22 rho_24 f_23 H locs hw hH => ?_)
      have hch_ := hw
      try dsimp only at hch_
      exact m_iret (v := r_22) hx hb hr hlk hC hH (fun _ => (0, 0)) (by rcases hch_ with ⟨d_, u_, r_⟩ | ⟨d_, e_, u_, r_⟩ | ⟨d_, e_, r_, fr_, I_⟩; (rw [u_]; exact ⟨hfr, Or.inr (Or.inl ⟨⟨⟨v1_, v2_, v3_, v4_, v5_⟩, okq_⟩, d_, r_, ⟨(sBd (sAll σ (ver hg)) o.toNatClampNeg (renB (ver hg o.toNatClampNeg) j.toNatClampNeg q.toInt64)), rfl, rfl, rfl, hI⟩⟩)⟩); (rw [u_]; exact ⟨hfr, Or.inr (Or.inr (Or.inl ⟨⟨⟨v1_, v2_, v3_, v4_, v5_⟩, okq_⟩, d_, e_, r_, ⟨(sBd (sAll σ (ver hg)) o.toNatClampNeg (renB (ver hg o.toNatClampNeg) j.toNatClampNeg q.toInt64)), rfl, rfl, rfl, hI⟩⟩))⟩); exact ⟨hfr.trans fr_, Or.inr (Or.inr (Or.inr ⟨⟨⟨v1_, v2_, v3_, v4_, v5_⟩, okq_⟩, d_, e_, r_, ⟨(sBd (sAll σ (ver hg)) o.toNatClampNeg (renB (ver hg o.toNatClampNeg) j.toNatClampNeg q.toInt64)), rfl, rfl, rfl, I_⟩⟩))⟩) (Nat.le_of_ble_eq_true rfl) (Nat.le_of_ble_eq_true rfl) dX6_row_61
    · skip
      have ic_7 : (q.toInt : Int) ≠ (-3) := ic_ne rfl kI_m3 c_7
      refine lv_iload_n hx hb dX6_row_16 rfl (lv_at hl 3 rfl) ?_
      refine lv_i2l hx hb dX6_row_17 rfl ?_
      refine lv_topl (fun y_25 ey_25 => ?_)
      have iy_25 : y_25.toInt = q.toInt := lc_i2l ey_25 rfl
      have gy_25 := ic_rng q
      refine lv_lconst (v := 0) hx hb dX6_row_18 (by decide) ?_
      refine lv_ldc2 (v := 8) hx hb hown (hts (.constantLong RX6 125 (8)) (by decide +kernel)) dX6_row_19 ?_
      refine m_goi hH (va_runS (As := [.long y_25, .long 0, .long 8]) (rest := []) ⟨hx, hb, hml, hown, hts⟩ (c_X6_in l G f y_25 0 8) (va_cwS 3 hts gX6_row_X6_in rfl rfl rfl (by decide +kernel) ⟨Nat.le_of_ble_eq_true rfl, Nat.le_of_ble_eq_true rfl⟩) (m_preS hC hH) rfl rfl hl.1 rfl (lv_room (Nat.le_of_ble_eq_true rfl)) dX6_row_22 ⟨Nat.le_of_ble_eq_true rfl, Nat.le_of_ble_eq_true rfl⟩) (fun r_26 rho_28 f_27 H locs hw hH => ?_)
      obtain ⟨hu, hr_26⟩ := hw
      have hu : f_27 = f := hu
      rw [hu] at hH
      have hr_26 : (r_26.toInt = 1 ∧ 0 ≤ y_25.toInt ∧ y_25.toInt ≤ 8) ∨ (r_26.toInt = 0 ∧ (y_25.toInt < 0 ∨ 8 < y_25.toInt)) := by have q0 := (rfl : y_25.toInt = _); have q1 := kJ_0; have q2 := kJ_8; omega
      refine lv_if_ne (tgt := 30) hx hb dX6_row_25 (by decide) (fun c_29 => ?_) (fun c_29 => ?_)
      · skip
        have ic_29 : (r_26.toInt : Int) ≠ 0 := ic_ne rfl kI_0 c_29
        have okq_ : q.toInt = -3 ∨ (0 ≤ q.toInt ∧ q.toInt ≤ 8) := by have := kJ_0; have := kJ_8; omega
        refine lv_aload_n hx hb dX6_row_30 rfl (lv_at hl 0 rfl) ?_
        refine lv_aload_n hx hb dX6_row_31 rfl (lv_at hl 0 rfl) ?_
        refine m_get (ci := 6) (v := .int (nI hg)) (C := RX6) (T := TX6) (N := 30) hx hb hC hH hts in_X6_row_X6 hown F_2 rfl 2 (by decide) (hts (.fieldLink RX6 104 "LazyStateModel" "height" "I") (by decide +kernel)) rfl dX6_row_32 ?_
        refine lv_bipush (v := 41) hx hb dX6_row_35 (by decide) ?_
        refine m_gov hH (va_runV (As := [.int (nI hg), .int 41]) (rest := []) ⟨hx, hb, hml, hown, hts⟩ (c_X6_copyAll l G h n (nI hg, fe, ca, (gfS σ), wh, nI ((trS σ).length), nI wl.length, nI ac, nI th, sx) I_1 J_1 f hM (nI hg) 41 (by have := hgI_1; have := kI_41; omega) (by have := hgI_1; have := kI_41; omega)) (cwV 2 hts gX6_row_X6_copyAll rfl rfl rfl (by decide +kernel) ⟨Nat.le_of_ble_eq_true rfl, Nat.le_of_ble_eq_true rfl⟩) (m_preV (ci := 6) hC hH F_2 rfl) rfl rfl hl.1 rfl (lv_room (Nat.le_of_ble_eq_true rfl)) dX6_row_37 ⟨Nat.le_of_ble_eq_true rfl, Nat.le_of_ble_eq_true rfl⟩) (fun rho_32 f_31 H locs hw hH => ?_)
        obtain ⟨hfr1, hM⟩ := hw
        have hfr1 : frM h f f_31 := hfr1
        have hfr := hfr.trans hfr1
        have hM : MEM G h n (nI hg, fe, ca, (gfS σ), wh, nI ((trS σ).length), nI wl.length, nI ac, nI th, sx) (va_up (va_up I_1 4 (va_cpy (I_1 4) (I_1 4) (192 * (nI hg).toNatClampNeg) (192 * (41 : Int32).toNatClampNeg) 192)) 5 (va_cpy (I_1 5) (I_1 5) (1536 * (nI hg).toNatClampNeg) (1536 * (41 : Int32).toNatClampNeg) (8 * 192))) (va_up J_1 3 (va_cpy (J_1 3) (J_1 3) (192 * (nI hg).toNatClampNeg) (192 * (41 : Int32).toNatClampNeg) 192)) f_31 := hM
        rw [show (nI hg).toNatClampNeg = hg from (nI_cl (by omega))] at hM
        rw [show (41 : Int32).toNatClampNeg = 41 from rfl] at hM
        have hR := hR.toAT
        have hI : FM G h n T z A hg ver cq fe tms ca wl wh ac th sx (sAll σ (ver hg)) f_31 := ⟨_, _, hM, hR, hac_1, hth_1⟩
        obtain ⟨I_33, J_33, hM, hR, hac_33, hth_33⟩ := hI
        have hg_33 := hR.hg40
        have n24_33 := hR.n24
        have tl_33 := len_b hR.ok.2.2.1
        have wl_33 := hR.wl192
        have hgI_33 : (nI hg).toInt = ((hg : Nat) : Int) := nI_toInt (by omega)
        have tmI_33 : (nI ((trS (sAll σ (ver hg))).length)).toInt = (((trS (sAll σ (ver hg))).length : Nat) : Int) := nI_toInt (by omega)
        have wmI_33 : (nI wl.length).toInt = ((wl.length : Nat) : Int) := nI_toInt (by omega)
        have acI_33 : (nI ac).toInt = ((ac : Nat) : Int) := nI_toInt (by omega)
        have thI_33 : (nI th).toInt = ((th : Nat) : Int) := nI_toInt (by omega)
        have nIn_33 : (nI n).toInt = ((n : Nat) : Int) := nI_toInt (by omega)
        refine lv_aload_n hx hb dX6_row_40 rfl (lv_at hl 0 rfl) ?_
        refine lv_bipush (v := 8) hx hb dX6_row_41 (by decide) ?_
        refine lv_iload_n hx hb dX6_row_43 rfl (lv_at hl 1 rfl) ?_
        refine lv_imul hx hb dX6_row_44 ?_
        refine lv_topi (fun x_34 ex_34 => ?_)
        have ix_34 : x_34.toInt = 8 * o.toInt := ic_mul ex_34 kI_8 rfl (by omega) (by omega)
        refine lv_iload_n hx hb dX6_row_45 rfl (lv_at hl 2 rfl) ?_
        refine lv_iadd hx hb dX6_row_46 ?_
        refine lv_topi (fun x_35 ex_35 => ?_)
        have ix_35 : x_35.toInt = x_34.toInt + j.toInt := ic_add ex_35 rfl rfl (by omega) (by omega)
        refine lv_iload_n hx hb dX6_row_47 rfl (lv_at hl 3 rfl) ?_
        have F_36 : f_31 (h 0) = some (.inr (6, [.int (nI n), .ref (h 1), .int (nI hg), .ref (h 3), .ref (h 4), .ref (h 5), .ref (h 6), .int fe, .ref (h 8), .ref (h 9), .ref (h 10), .ref (h 11), .ref (h 12), .ref (h 13), .ref (h 14), .ref (h 15), .int ca, .long (gfS (sAll σ (ver hg))), .int wh, .int (nI ((trS (sAll σ (ver hg))).length)), .ref (h 20), .ref (h 21), .int (nI wl.length), .ref (h 23), .ref (h 24), .int (nI ac), .ref (h 26), .ref (h 27), .int (nI th), .int sx])) := hM.1
        refine m_gov hH (va_runV (As := [.int x_35, .int q]) (rest := []) ⟨hx, hb, hml, hown, hts⟩ (c_X6_newRow l G h n (nI hg, fe, ca, (gfS (sAll σ (ver hg))), wh, nI ((trS (sAll σ (ver hg))).length), nI wl.length, nI ac, nI th, sx) I_33 J_33 f_31 hM x_35 q (by omega)) (cwV 2 hts gX6_row_X6_newRow rfl rfl rfl (by decide +kernel) ⟨Nat.le_of_ble_eq_true rfl, Nat.le_of_ble_eq_true rfl⟩) (m_preV (ci := 6) hC hH F_36 rfl) rfl rfl hl.1 rfl (lv_room (Nat.le_of_ble_eq_true rfl)) dX6_row_48 ⟨Nat.le_of_ble_eq_true rfl, Nat.le_of_ble_eq_true rfl⟩) (fun rho_39 f_38 H locs hw hH => ?_)
        obtain ⟨hfr1, it_48, hM, hz_48⟩ := hw
        have hfr1 : frM h f_31 f_38 := hfr1
        have hfr := hfr.trans hfr1
        have hM : MEM G h n (nI hg, fe, ca, (gfS (sAll σ (ver hg))), wh, nI ((trS (sAll σ (ver hg))).length), nI wl.length, nI ac, nI th, sx) (va_up (va_up I_33 4 (upd (I_33 4) (7872 + x_35.toNatClampNeg) q)) 5 it_48) J_33 f_38 := hM
        have hz_48 : ∀ x, it_48 x = if 8 * (7872 + x_35.toNatClampNeg) ≤ x ∧ x < 8 * (7872 + x_35.toNatClampNeg) + 8 then 0 else (I_33 5) x := hz_48
        have nr_ : 7872 + x_35.toNatClampNeg = 192 * 41 + 8 * o.toNatClampNeg + j.toNatClampNeg := by have := ic_clN (rfl : x_35.toInt = _) (by omega); omega
        rw [nr_] at hM hz_48
        have hR := hR.row (o := o.toNatClampNeg) (j := j.toNatClampNeg) (v := q.toInt64) (by omega) (by omega) v5_ (by rw [Int32.toInt_toInt64]; omega) (congrArg (upd _ _) (Int32.toInt32_toInt64 q).symm) hz_48
        have hI : FM G h n T z A hg ver cq fe tms ca wl wh ac th sx (sBd (sAll σ (ver hg)) o.toNatClampNeg (renB (ver hg o.toNatClampNeg) j.toNatClampNeg q.toInt64)) f_38 := ⟨_, _, hM, hR, hac_33, hth_33⟩
        obtain ⟨I_40, J_40, hM, hR, hac_40, hth_40⟩ := hI
        have hg_40 := hR.hg40
        have n24_40 := hR.n24
        have tl_40 := len_b hR.ok.2.2.1
        have wl_40 := hR.wl192
        have hgI_40 : (nI hg).toInt = ((hg : Nat) : Int) := nI_toInt (by omega)
        have tmI_40 : (nI ((trS (sBd (sAll σ (ver hg)) o.toNatClampNeg (renB (ver hg o.toNatClampNeg) j.toNatClampNeg q.toInt64))).length)).toInt = (((trS (sBd (sAll σ (ver hg)) o.toNatClampNeg (renB (ver hg o.toNatClampNeg) j.toNatClampNeg q.toInt64))).length : Nat) : Int) := nI_toInt (by omega)
        have wmI_40 : (nI wl.length).toInt = ((wl.length : Nat) : Int) := nI_toInt (by omega)
        have acI_40 : (nI ac).toInt = ((ac : Nat) : Int) := nI_toInt (by omega)
        have thI_40 : (nI th).toInt = ((th : Nat) : Int) := nI_toInt (by omega)
        have nIn_40 : (nI n).toInt = ((n : Nat) : Int) := nI_toInt (by omega)
        refine lv_aload_n hx hb dX6_row_51 rfl (lv_at hl 0 rfl) ?_
        refine lv_bipush (v := 8) hx hb dX6_row_52 (by decide) ?_
        refine lv_iload_n hx hb dX6_row_54 rfl (lv_at hl 1 rfl) ?_
        refine lv_imul hx hb dX6_row_55 ?_
        refine lv_topi (fun x_41 ex_41 => ?_)
        have ix_41 : x_41.toInt = 8 * o.toInt := ic_mul ex_41 kI_8 rfl (by omega) (by omega)
        refine lv_iload_n hx hb dX6_row_56 rfl (lv_at hl 2 rfl) ?_
        refine lv_iadd hx hb dX6_row_57 ?_
        refine lv_topi (fun x_42 ex_42 => ?_)
        have ix_42 : x_42.toInt = x_41.toInt + j.toInt := ic_add ex_42 rfl rfl (by omega) (by omega)
        have F_43 : f_38 (h 0) = some (.inr (6, [.int (nI n), .ref (h 1), .int (nI hg), .ref (h 3), .ref (h 4), .ref (h 5), .ref (h 6), .int fe, .ref (h 8), .ref (h 9), .ref (h 10), .ref (h 11), .ref (h 12), .ref (h 13), .ref (h 14), .ref (h 15), .int ca, .long (gfS (sBd (sAll σ (ver hg)) o.toNatClampNeg (renB (ver hg o.toNatClampNeg) j.toNatClampNeg q.toInt64))), .int wh, .int (nI ((trS (sBd (sAll σ (ver hg)) o.toNatClampNeg (renB (ver hg o.toNatClampNeg) j.toNatClampNeg q.toInt64))).length)), .ref (h 20), .ref (h 21), .int (nI wl.length), .ref (h 23), .ref (h 24), .int (nI ac), .ref (h 26), .ref (h 27), .int (nI th), .int sx])) := hM.1
        have hI : FM G h n T z A hg ver cq fe tms ca wl wh ac th sx (sBd (sAll σ (ver hg)) o.toNatClampNeg (renB (ver hg o.toNatClampNeg) j.toNatClampNeg q.toInt64)) f_38 := ⟨_, _, hM, hR, hac_40, hth_40⟩
        refine m_goi hH (va_runV (As := [.int x_42]) (rest := []) ⟨hx, hb, hml, hown, hts⟩ (c_X6_changed l G h n T z A hg ver cq fe tms ca wl wh ac th sx (sBd (sAll σ (ver hg)) o.toNatClampNeg (renB (ver hg o.toNatClampNeg) j.toNatClampNeg q.toInt64)) f_38 hI x_42 (8 * o.toNatClampNeg + j.toNatClampNeg) (by omega) (by omega)) (cwV 1 hts gX6_row_X6_changed rfl rfl rfl (by decide +kernel) ⟨Nat.le_of_ble_eq_true rfl, Nat.le_of_ble_eq_true rfl⟩) (m_preV (ci := 6) hC hH F_43 rfl) rfl rfl hl.1 rfl (lv_room (Nat.le_of_ble_eq_true rfl)) dX6_row_58 ⟨Nat.le_of_ble_eq_true rfl, Nat.le_of_ble_eq_true rfl⟩) (fun r_44 rho_46 f_45 H locs hw hH => ?_)
        have hch_ := hw
        try dsimp only at hch_
        exact m_iret (v := r_44) hx hb hr hlk hC hH (fun _ => (0, 0)) (by rcases hch_ with ⟨d_, u_, r_⟩ | ⟨d_, e_, u_, r_⟩ | ⟨d_, e_, r_, fr_, I_⟩; (rw [u_]; exact ⟨hfr, Or.inr (Or.inl ⟨⟨⟨v1_, v2_, v3_, v4_, v5_⟩, okq_⟩, d_, r_, ⟨(sBd (sAll σ (ver hg)) o.toNatClampNeg (renB (ver hg o.toNatClampNeg) j.toNatClampNeg q.toInt64)), rfl, rfl, rfl, hI⟩⟩)⟩); (rw [u_]; exact ⟨hfr, Or.inr (Or.inr (Or.inl ⟨⟨⟨v1_, v2_, v3_, v4_, v5_⟩, okq_⟩, d_, e_, r_, ⟨(sBd (sAll σ (ver hg)) o.toNatClampNeg (renB (ver hg o.toNatClampNeg) j.toNatClampNeg q.toInt64)), rfl, rfl, rfl, hI⟩⟩))⟩); exact ⟨hfr.trans fr_, Or.inr (Or.inr (Or.inr ⟨⟨⟨v1_, v2_, v3_, v4_, v5_⟩, okq_⟩, d_, e_, r_, ⟨(sBd (sAll σ (ver hg)) o.toNatClampNeg (renB (ver hg o.toNatClampNeg) j.toNatClampNeg q.toInt64)), rfl, rfl, rfl, I_⟩⟩))⟩) (Nat.le_of_ble_eq_true rfl) (Nat.le_of_ble_eq_true rfl) dX6_row_61
      · skip
        have ic_29 : (r_26.toInt : Int) = 0 := ic_eq rfl kI_0 c_29
        refine lv_iconst (v := (-1)) hx hb dX6_row_28 (by decide) ?_
        exact m_iret (v := (-1)) hx hb hr hlk hC hH (fun _ => (0, 0)) ⟨hfr, Or.inl ⟨(fun z_ => by have := kJ_0; have := kJ_8; omega), kI_m1, σ, rfl, rfl, rfl, ⟨_, _, hM, hR, hac_1, hth_1⟩⟩⟩ (Nat.le_of_ble_eq_true rfl) (Nat.le_of_ble_eq_true rfl) dX6_row_29
